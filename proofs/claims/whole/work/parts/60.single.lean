/-! The script's commands are read, but repeats. -/
section Single
variable {s : Nat} {μ ν m v m' v' : Mem} {B : Nat → Nat} {L E P C O i k : Nat}
theorem RS0.cong2 (h : RS0 6 μ ν B L) (h1 : ∀ f, 1 ≤ f → f ≤ 5 → m 6 0 f = μ 6 0 f) (h2 : m 11 = μ 11) (h3 : m 20 = μ 20) (h4 : ∀ f, f = 9 ∨ (12 ≤ f ∧ f ≤ 17) → v 13 0 f = ν 13 0 f) (h5 : v 46 = ν 46) : RS0 6 m v B L := by
  obtain ⟨b, e, hX, q⟩ := h
  refine ⟨b, e, ?_, ?_⟩
  · unfold TX; rw [h2, h3, h4 9 (by omega), h5]; exact hX
  · rw [h1 1 (by omega) (by omega), h1 2 (by omega) (by omega), h1 3 (by omega) (by omega), h1 4 (by omega) (by omega), h1 5 (by omega) (by omega), h4 12 (by omega), h4 13 (by omega), h4 14 (by omega), h4 15 (by omega), h4 16 (by omega), h4 17 (by omega)]; exact q
/-- what the reading of the command k into the step i may change -/
def FI (i k : Nat) (μ m ν v : Mem) : Prop := (∀ K, K ≠ 6 → K ≠ 10 → m K = μ K) ∧ (∀ f, f = 0 ∨ 5 < f → m 6 0 f = μ 6 0 f) ∧ (∀ j f, j ≠ i ∨ f = 0 → m 10 j f = μ 10 j f) ∧ (∀ K, K ≠ 13 → K ≠ 48 → v K = ν K) ∧ (∀ f, (f < 12 ∨ 17 < f) → v 13 0 f = ν 13 0 f) ∧ ∀ z, (z < 7 * k ∨ 7 * k + 7 ≤ z) → v 48 0 z = ν 48 0 z
theorem FI.rf : FI i k μ μ ν ν := ⟨fun _ _ _ => rfl, fun _ _ => rfl, fun _ _ _ => rfl, fun _ _ _ => rfl, fun _ _ => rfl, fun _ _ => rfl⟩
theorem FI.tr (h : FI i k μ m ν v) (h' : FI i k m m' v v') : FI i k μ m' ν v' := ⟨fun K a b => (h'.1 K a b).trans (h.1 K a b), fun f a => (h'.2.1 f a).trans (h.2.1 f a), fun j f a => (h'.2.2.1 j f a).trans (h.2.2.1 j f a), fun K a b => (h'.2.2.2.1 K a b).trans (h.2.2.2.1 K a b), fun f a => (h'.2.2.2.2.1 f a).trans (h.2.2.2.2.1 f a), fun z a => (h'.2.2.2.2.2 z a).trans (h.2.2.2.2.2 z a)⟩
theorem FRD.fi (h : FRD 6 μ m ν v) : FI i k μ m ν v := ⟨fun K a _ => h.1 K a, fun f a => h.2.1 0 f (by omega), fun j f _ => by rw [h.1 10 (by omega)], fun K a _ => h.2.2.1 K a, h.2.2.2, fun z _ => by rw [h.2.2.1 48 (by omega)]⟩
theorem FI.c {f : Nat} {x : Int32} (h : FI i k μ m ν v) (hf : f ≠ 0) : FI i k μ (st3 m 10 i f x) ν v := by
  refine ⟨fun K a b => by rw [st3_K b]; exact h.1 K a b, fun f a => by rw [st3_K (by omega)]; exact h.2.1 f a, fun j g a => ?_, h.2.2.2⟩
  by_cases e : j = i
  · subst e
    rw [st3_ua, ua_N (by omega)]
    exact h.2.2.1 j g a
  · rw [st3_J e]
    exact h.2.2.1 j g a
theorem FI.md {q : Nat} {x : Int32} (h : FI i k μ m ν v) (hq : q < 7) : FI i k μ m ν (st3 v 48 0 (7 * k + q) x) := by
  refine ⟨h.1, h.2.1, h.2.2.1, fun K a b => by rw [st3_K b]; exact h.2.2.2.1 K a b, fun f a => by rw [st3_K (by omega)]; exact h.2.2.2.2.1 f a, fun z a => ?_⟩
  rw [st3_ua, ua_N (by omega)]
  exact h.2.2.2.2.2 z a
/-- read so far: the words of the step i and of the command k that S names are alike, if there is no error -/
def RDX (i k : Nat) (S : List (Nat × Nat)) (μ m ν v : Mem) (B : Nat → Nat) (L : Nat) : Prop := RS0 6 m v B L ∧ FI i k μ m ν v ∧ (m 6 0 4 = 0 → μ 6 0 4 = 0 ∧ ∀ z ∈ S, m 10 i z.1 = v 48 0 (7 * k + z.2))
theorem RDX.rf (h : RS0 6 μ ν B L) : RDX i k [] μ μ ν ν B L := ⟨h, FI.rf, fun z => ⟨z, fun _ q => by cases q⟩⟩
theorem RDX.po {S : List (Nat × Nat)} (h : RDX i k S μ m ν v B L) (p : PO 6 m v m' v' B L) : RDX i k S μ m' ν v' B L := by
  refine ⟨p.1, h.2.1.tr p.2.1.fi, fun z => ?_⟩
  obtain ⟨a, b⟩ := h.2.2 (p.2.2 z)
  exact ⟨a, fun q hq => by rw [p.2.1.1 10 (by omega), p.2.1.2.2.1 48 (by omega)]; exact b q hq⟩
theorem RDX.put {S : List (Nat × Nat)} {f q : Nat} {x y : Int32} (h : RDX i k S μ m ν v B L) (e : m 6 0 4 = 0 → x = y) (hf : f ≠ 0) (hq : q < 7) (hS : ∀ z ∈ S, z.1 ≠ f ∧ z.2 ≠ q) : RDX i k ((f, q) :: S) μ (st3 m 10 i f x) ν (st3 v 48 0 (7 * k + q) y) B L := by
  refine ⟨h.1.cong (st3_K (by omega)) (st3_K (by omega)) (st3_K (by omega)) (st3_K (by omega)) (st3_K (by omega)), (h.2.1.c hf).md hq, fun z => ?_⟩
  rw [st3_K (by omega)] at z
  obtain ⟨a, b⟩ := h.2.2 z
  refine ⟨a, fun w hw => ?_⟩
  rcases List.mem_cons.mp hw with rfl | hw
  · rw [st3_ua, ua_S, st3_ua, ua_S]
    exact e z
  · have := hS w hw
    rw [st3_ua, ua_N this.1, st3_ua, ua_N (by omega)]
    exact b w hw
theorem lays_ {q : Nat} {x : Int32} (hk : k < 30) (hq : q < 7) : f_R_lays (nI k) (nI q) x ν = some (st3 ν 48 0 (7 * k + q) x) := by
  unfold f_R_lays
  have e : (7 : Int32) * nI k + nI q = nI (7 * k + q) := by
    rw [show (7 : Int32) = nI 7 from rfl, show nI 7 * nI k = nI (7 * k) from (Int32.ofNat_mul 7 k).symm, nI_add]
  rw [e, chk_of (inb_of (by omega) (by omega)), nI_clamp (by omega)]
  rfl
theorem lays0 {x : Int32} (hk : k < 30) : f_R_lays (nI k) 0 x ν = some (st3 ν 48 0 (7 * k + 0) x) := lays_ (q := 0) hk (by omega)
theorem lays1 {x : Int32} (hk : k < 30) : f_R_lays (nI k) 1 x ν = some (st3 ν 48 0 (7 * k + 1) x) := lays_ (q := 1) hk (by omega)
theorem lays2 {x : Int32} (hk : k < 30) : f_R_lays (nI k) 2 x ν = some (st3 ν 48 0 (7 * k + 2) x) := lays_ (q := 2) hk (by omega)
theorem lays3 {x : Int32} (hk : k < 30) : f_R_lays (nI k) 3 x ν = some (st3 ν 48 0 (7 * k + 3) x) := lays_ (q := 3) hk (by omega)
theorem lays4 {x : Int32} (hk : k < 30) : f_R_lays (nI k) 4 x ν = some (st3 ν 48 0 (7 * k + 4) x) := lays_ (q := 4) hk (by omega)
theorem lays5 {x : Int32} (hk : k < 30) : f_R_lays (nI k) 5 x ν = some (st3 ν 48 0 (7 * k + 5) x) := lays_ (q := 5) hk (by omega)
theorem lays6 {x : Int32} (hk : k < 30) : f_R_lays (nI k) 6 x ν = some (st3 ν 48 0 (7 * k + 6) x) := lays_ (q := 6) hk (by omega)
theorem RDX.st {S : List (Nat × Nat)} (h : RDX i k S μ m ν v B L) (hT : ST μ s (ν 40 0) E P C O) : ST m s (v 40 0) E P C O := by
  rw [h.2.1.2.2.2.1 40 (by omega) (by omega)]
  exact hT.mem (fun K q => h.2.1.1 K (by unfold setK at q; omega) (by unfold setK at q; omega))
theorem P_sale (h : RS0 6 μ ν B L) (hT : ST μ s (ν 40 0) E P C O) (hk : k < 30) : ∃ m v0 v, f_Script_readSell i s μ = some m ∧ f_R_readsSale (nI k) ν = some v0 ∧ f_R_takesSign 59 v0 = some v ∧ RDX i k [(7, 6), (6, 5), (5, 4), (4, 2), (3, 1), (2, 3), (1, 0)] μ m ν v B L ∧ (m 6 0 4 = 0 → (m 10 i 2 = 1 ∧ m 10 i 4 = -1) ∨ m 10 i 2 = 0 ∨ m 10 i 2 = 2) := by
  have A0 := RDX.rf (i := i) (k := k) h
  obtain ⟨x1, y1, m1, v1, a1, b1, c1, d1⟩ := P_takeC h hT
  have A1 := (A0.po c1).put (f := 1) (q := 0) d1 (by omega) (by omega) (fun _ z => by cases z)
  obtain ⟨x2, y2, m2, v2, a2, b2, c2, d2, g2⟩ := P_kind A1.1
  have A2 := (A1.po c2).put (f := 2) (q := 3) (fun z => (d2 z).1) (by omega) (by omega) (by decide)
  obtain ⟨x3, y3, m3, v3, a3, b3, c3, d3⟩ := P_takeE A2.1 (A2.st hT)
  have A3 := (A2.po c3).put (f := 3) (q := 1) d3 (by omega) (by omega) (by decide)
  have e2 : (st3 m3 10 i 3 x3) 10 i 2 = x2 := by rw [st3_ua, ua_N (by omega), c3.2.1.1 10 (by omega), st3_ua, ua_S]
  -- the place
  have key : ∃ x4 y4 m4 v4, ((if (st3 m3 10 i 3 x3) 10 i 2 = 1 then (some (((-1), (st3 m3 10 i 3 x3)))) else (((f_Reader_takeName 6 (3 * s + 1) (st3 m3 10 i 3 x3))).bind (fun r16 => some ((r16.1, r16.2)))) : Option (Int32 × Mem))) = some (x4, m4) ∧ ((if y2 = 1 then (some (((-1), (st3 v3 48 0 (7 * k + 1) y3)))) else (((f_R_takesPlace (st3 v3 48 0 (7 * k + 1) y3))).bind (fun r15 => some ((r15.1, r15.2)))) : Option (Int32 × Mem))) = some (y4, v4) ∧ PO 6 (st3 m3 10 i 3 x3) (st3 v3 48 0 (7 * k + 1) y3) m4 v4 B L ∧ (m4 6 0 4 = 0 → x4 = y4) ∧ (x2 = 1 → x4 = -1) := by
    rw [e2]
    by_cases c : x2 = 1
    · exact ⟨_, _, _, _, if_pos c, if_pos (g2.mp c), PO.rf A3.1, fun _ => rfl, fun _ => rfl⟩
    · obtain ⟨x4, y4, m4, v4, a4, b4, c4, d4⟩ := P_takeP A3.1 (A3.st hT)
      exact ⟨x4, y4, m4, v4, by rw [if_neg c, a4, bind_s], by rw [if_neg (fun z => c (g2.mpr z)), b4, bind_s], c4, d4, fun z => absurd z c⟩
  obtain ⟨x4, y4, m4, v4, a4, b4, c4, d4, g4⟩ := key
  have A4 := (A3.po c4).put (f := 4) (q := 2) d4 (by omega) (by omega) (by decide)
  obtain ⟨x5, y5, m5, v5, a5, b5, c5, d5⟩ := P_number (lo := 0) (hi := 99) n6_ (by omega) (by omega) A4.1
  have A5 := (A4.po c5).put (f := 5) (q := 4) (x := x5) (y := y5) (fun z => by obtain ⟨_, _, _, p, q⟩ := d5 z; rw [p, q]) (by omega) (by omega) (by decide)
  obtain ⟨x6, y6, m6, v6, a6, b6, c6, d6⟩ := P_number (lo := 1) (hi := 60) n6_ (by omega) (by omega) A5.1
  have A6 := (A5.po c6).put (f := 6) (q := 5) (x := x6) (y := y6) (fun z => by obtain ⟨_, _, _, p, q⟩ := d6 z; rw [p, q]) (by omega) (by omega) (by decide)
  obtain ⟨x7, y7, m7, v7, a7, b7, c7, d7⟩ := P_number (lo := 1) (hi := 999) n6_ (by omega) (by omega) A6.1
  have A7 := (A6.po c7).put (f := 7) (q := 6) (x := x7) (y := y7) (fun z => by obtain ⟨_, _, _, p, q⟩ := d7 z; rw [p, q]) (by omega) (by omega) (by decide)
  obtain ⟨m8, v8, a8, b8, c8⟩ := P_takeSign (c := 59) n6_ (Or.inl rfl) A7.1
  have A8 := A7.po c8
  refine ⟨m8, _, v8, ?_, ?_, b8, A8, fun z => ?_⟩
  · unfold f_Script_readSell
    rw [a1, bind_s, nm_9, a2, bind_s, nm_9, a3, bind_s, nm_9, a4, bind_s, nm_9]
    rw [show f_Reader_takeNumber 6 0 99 _ = _ from a5, bind_s, nm_9, show f_Reader_takeNumber 6 1 60 _ = _ from a6, bind_s, nm_9, show f_Reader_takeNumber 6 1 999 _ = _ from a7, bind_s, nm_9, show f_Reader_takeSign 6 59 _ = _ from a8, bind_s]
  · unfold f_R_readsSale
    rw [b1, bind_s, lays0 hk, bind_s, b2, bind_s, lays3 hk, bind_s, b3, bind_s, lays1 hk, bind_s, b4, bind_s, lays2 hk, bind_s, show f_R_number 0 99 _ = _ from b5, bind_s, lays4 hk, bind_s, show f_R_number 1 60 _ = _ from b6, bind_s, lays5 hk, bind_s, show f_R_number 1 999 _ = _ from b7, bind_s, lays6 hk, bind_s]
  · have z7 := c8.2.2 z
    rw [st3_K (by omega)] at z7
    have z6 := c7.2.2 z7
    rw [st3_K (by omega)] at z6
    have z5 := c6.2.2 z6
    rw [st3_K (by omega)] at z5
    have z4 := c5.2.2 z5
    rw [st3_K (by omega)] at z4
    have z3 := c4.2.2 z4
    rw [st3_K (by omega)] at z3
    have z2 := c3.2.2 z3
    rw [st3_K (by omega)] at z2
    have f2 : m8 10 i 2 = x2 := by
      rw [c8.2.1.1 10 (by omega), st3_ua, ua_N (by omega), c7.2.1.1 10 (by omega), st3_ua, ua_N (by omega), c6.2.1.1 10 (by omega), st3_ua, ua_N (by omega), c5.2.1.1 10 (by omega), st3_ua, ua_N (by omega), c4.2.1.1 10 (by omega)]
      exact e2
    have f4 : m8 10 i 4 = x4 := by
      rw [c8.2.1.1 10 (by omega), st3_ua, ua_N (by omega), c7.2.1.1 10 (by omega), st3_ua, ua_N (by omega), c6.2.1.1 10 (by omega), st3_ua, ua_N (by omega), c5.2.1.1 10 (by omega), st3_ua, ua_S]
    rw [f2, f4]
    rcases (d2 z2).2 with q | q | q
    · exact Or.inl ⟨q, g4 q⟩
    · exact Or.inr (Or.inl q)
    · exact Or.inr (Or.inr q)
theorem P_happens (h : RS0 6 μ ν B L) (hT : ST μ s (ν 40 0) E P C O) (hk : k < 30) : ∃ m v0 v1 v2 v3 v, ∃ y1 y2, f_Script_readHappen i s μ = some m ∧ f_R_takesEvent ν = some (y1, v0) ∧ f_R_lays (nI k) 1 y1 v0 = some v1 ∧ f_R_takesPlace v1 = some (y2, v2) ∧ f_R_lays (nI k) 2 y2 v2 = some v3 ∧ f_R_takesSign 59 v3 = some v ∧ RDX i k [(4, 2), (3, 1)] μ m ν v B L := by
  have A0 := RDX.rf (i := i) (k := k) h
  obtain ⟨x1, y1, m1, v1, a1, b1, c1, d1⟩ := P_takeE h hT
  have A1 := (A0.po c1).put (f := 3) (q := 1) d1 (by omega) (by omega) (fun _ z => by cases z)
  obtain ⟨x2, y2, m2, v2, a2, b2, c2, d2⟩ := P_takeP A1.1 (A1.st hT)
  have A2 := (A1.po c2).put (f := 4) (q := 2) d2 (by omega) (by omega) (by decide)
  obtain ⟨m8, v8, a8, b8, c8⟩ := P_takeSign (c := 59) n6_ (Or.inl rfl) A2.1
  refine ⟨m8, v1, _, v2, _, v8, y1, y2, ?_, b1, lays1 hk, b2, lays2 hk, b8, A2.po c8⟩
  unfold f_Script_readHappen
  rw [a1, bind_s, nm_9, a2, bind_s, nm_9, show f_Reader_takeSign 6 59 _ = _ from a8, bind_s]
theorem P_num {lo hi : Nat} (hlo : lo ≤ hi) (hhi : hi < 2 ^ 31) (h : RS0 6 μ ν B L) (hk : k < 30) : ∃ x m0 m v0 v1 v y, f_Reader_takeNumber 6 (nI lo) (nI hi) μ = some (x, m0) ∧ f_Reader_takeSign 6 59 (st3 m0 10 i 8 x) = some m ∧ f_R_number (nI lo) (nI hi) ν = some (y, v0) ∧ f_R_lays (nI k) 0 y v0 = some v1 ∧ f_R_takesSign 59 v1 = some v ∧ RDX i k [(8, 0)] μ m ν v B L := by
  have A0 := RDX.rf (i := i) (k := k) h
  obtain ⟨x1, y1, m1, v1, a1, b1, c1, d1⟩ := P_number n6_ hlo hhi h
  have A1 := (A0.po c1).put (f := 8) (q := 0) (x := x1) (y := y1) (fun z => by obtain ⟨_, _, _, p, q⟩ := d1 z; rw [p, q]) (by omega) (by omega) (fun _ z => by cases z)
  obtain ⟨m8, v8, a8, b8, c8⟩ := P_takeSign (c := 59) n6_ (Or.inl rfl) A1.1
  exact ⟨x1, m1, m8, v1, _, v8, y1, a1, a8, b1, lays0 hk, b8, A1.po c8⟩
-- behind an error
theorem E_sale (hc : μ 6 0 4 ≠ 0) (hT : ST μ s (ν 40 0) E P C O) : ∃ m, f_Script_readSell i s μ = some m ∧ ∀ K, K ≠ 10 → m K = μ K := by
  obtain ⟨t1, t2, t3, t4, t5, t6, t7, t8, -⟩ := hT
  have nx : ∀ (m : Mem) (j cnt : Nat), (∀ K, K ≠ 10 → m K = μ K) → μ 3 j 1 = nI cnt → cnt ≤ 8 → ∃ x, f_Reader_takeName 6 j m = some (x, m) := fun m j cnt q c1 c2 => name_erC (by rw [q 6 (by omega)]; exact hc) (by rw [q 3 (by omega)]; exact c1) c2
  have st : ∀ (m : Mem) (f : Nat) (x : Int32), (∀ K, K ≠ 10 → m K = μ K) → ∀ K, K ≠ 10 → st3 m 10 i f x K = μ K := fun m f x q K hK => (st3_K hK).trans (q K hK)
  have er : ∀ m : Mem, (∀ K, K ≠ 10 → m K = μ K) → m 6 0 4 ≠ 0 := fun m q => by rw [q 6 (by omega)]; exact hc
  obtain ⟨x1, a1⟩ := nx μ (3 * s + 2) C (fun _ _ => rfl) t8.1 (by omega)
  have q1 := st μ 1 x1 (fun _ _ => rfl)
  have a2 := kind_erC (er _ q1)
  have q2 := st _ 2 0 q1
  obtain ⟨x3, a3⟩ := nx _ (3 * s) E q2 t6.1 (by omega)
  have q3 := st _ 3 x3 q2
  obtain ⟨x4, a4⟩ := nx _ (3 * s + 1) P q3 t7.1 (by omega)
  have e2 : (st3 (st3 (st3 μ 10 i 1 x1) 10 i 2 0) 10 i 3 x3) 10 i 2 = 0 := by rw [st3_ua, ua_N (by omega), st3_ua, ua_S]
  have q4 := st _ 4 x4 q3
  have a5 := num_erC (a := 0) (b := 99) (er _ q4)
  have q5 := st _ 5 0 q4
  have a6 := num_erC (a := 1) (b := 60) (er _ q5)
  have q6 := st _ 6 1 q5
  have a7 := num_erC (a := 1) (b := 999) (er _ q6)
  have q7 := st _ 7 1 q6
  refine ⟨_, ?_, q7⟩
  unfold f_Script_readSell
  rw [a1, bind_s, nm_9, a2, bind_s, nm_9, a3, bind_s, nm_9, e2, if_neg (by decide), a4, bind_s, bind_s, nm_9, a5, bind_s, nm_9, a6, bind_s, nm_9, a7, bind_s, nm_9, sign_erC (er _ q7), bind_s]
theorem E_happens (hc : μ 6 0 4 ≠ 0) (hT : ST μ s (ν 40 0) E P C O) : ∃ m, f_Script_readHappen i s μ = some m ∧ ∀ K, K ≠ 10 → m K = μ K := by
  obtain ⟨t1, t2, t3, t4, t5, t6, t7, t8, -⟩ := hT
  obtain ⟨x1, a1⟩ := name_erC hc t6.1 (by omega)
  have q1 : ∀ K, K ≠ 10 → st3 μ 10 i 3 x1 K = μ K := fun K hK => st3_K hK
  obtain ⟨x2, a2⟩ := name_erC (μ := st3 μ 10 i 3 x1) (by rw [q1 6 (by omega)]; exact hc) (by rw [q1 3 (by omega)]; exact t7.1) (by omega)
  have q2 : ∀ K, K ≠ 10 → st3 (st3 μ 10 i 3 x1) 10 i 4 x2 K = μ K := fun K hK => (st3_K hK).trans (q1 K hK)
  refine ⟨_, ?_, q2⟩
  unfold f_Script_readHappen
  rw [a1, bind_s, nm_9, a2, bind_s, nm_9, sign_erC (by rw [q2 6 (by omega)]; exact hc), bind_s]
end Single

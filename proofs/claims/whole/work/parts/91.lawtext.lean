/-! What is written is short and of letters; writing changes nothing else. -/
theorem lts_128 {w : List Nat} (h : okw w) : ∀ c ∈ lts w, c < 128 := by
  intro c hc
  obtain ⟨x1, h1, rfl⟩ := List.mem_map.mp hc
  have := h.2.2 x1 h1
  omega
theorem digs_128 {v : Nat} : ∀ c ∈ digs v, c < 128 := by
  intro c hc
  obtain ⟨x1, h1, rfl⟩ := List.mem_map.mp hc
  omega
theorem getD_128 {l : List Nat} (h : ∀ c ∈ l, c < 128) : ∀ i, i < l.length → l.getD i 0 < 128 := by
  intro i hi
  rw [List.getD_eq_getElem?_getD, List.getElem?_eq_getElem hi]
  exact h _ (List.getElem_mem _)
theorem app_128 {l r : List Nat} (h : ∀ c ∈ l, c < 128) (h' : ∀ c ∈ r, c < 128) : ∀ c ∈ l ++ r, c < 128 := fun c hc => (List.mem_append.mp hc).elim (h c) (h' c)
theorem one_128 {z : Nat} (h : z < 128) : ∀ c ∈ [z], c < 128 := fun c hc => by rw [List.mem_singleton.mp hc]; exact h
theorem NX_ok {μ : Mem} {k : Nat} {x1 : Int32} {t : List Nat} (h : NX μ k x1 t) : t.length ≤ 6 ∧ ∀ c ∈ t, c < 128 := by
  obtain ⟨c, n, w, -, -, -, -, hw, -, rfl⟩ := h
  exact ⟨by rw [lts_len]; exact hw.2.1, lts_128 hw⟩
theorem NB_ok {x1 : Int32} {t : List Nat} (h : NB x1 t) : t.length ≤ 5 ∧ ∀ c ∈ t, c < 128 := by
  obtain ⟨d, hd, -, rfl⟩ := h
  exact ⟨by rw [digs_len]; exact dl20 hd, digs_128⟩
theorem PTX_ok {μ : Mem} {s q : Nat} {tx : List Nat} (h : PTX μ s q tx) : tx.length ≤ 71 ∧ ∀ c ∈ tx, c < 128 := by
  obtain ⟨t1, t2, t3, t4, t5, tk, -, -, -, h1, h2, h3, h4, h5, h6, rfl⟩ := h
  have g1 := NX_ok h1
  have g2 := NX_ok h2
  have g4 := NB_ok h4
  have g5 := NB_ok h5
  have g3 : t3.length ≤ 6 ∧ ∀ c ∈ t3, c < 128 := by
    rcases h3 with ⟨-, rfl⟩ | ⟨-, h3⟩
    · exact ⟨by decide, one_128 (by omega)⟩
    · exact NX_ok h3
  have g6 : tk.length ≤ 1 ∧ ∀ c ∈ tk, c < 128 := by
    rcases h6 with ⟨-, rfl⟩ | ⟨-, rfl⟩
    · exact ⟨by decide, one_128 (by omega)⟩
    · exact ⟨by decide, fun c hc => absurd hc List.not_mem_nil⟩
  refine ⟨?_, app_128 (app_128 (app_128 (app_128 (app_128 (app_128 (app_128 (app_128 (app_128 g1.2 (one_128 (by omega))) g6.2) g2.2) (one_128 (by omega))) g3.2) (one_128 (by omega))) g4.2) (one_128 (by omega))) g5.2⟩
  have a1 := g1.1
  have a2 := g2.1
  have a3 := g3.1
  have a4 := g4.1
  have a5 := g5.1
  have a6 := g6.1
  simp only [List.length_append, List.length_cons, List.length_nil]
  omega
theorem qtx_128 {f : Nat → Nat} : ∀ i, ∀ c ∈ qtx f i, c < 128 := by
  intro i
  induction i with
  | zero => intro c hc; exact absurd hc List.not_mem_nil
  | succ i ih =>
    refine app_128 (app_128 ih ?_) digs_128
    by_cases e : i = 0
    · rw [if_pos e]; exact fun c hc => absurd hc List.not_mem_nil
    · rw [if_neg e]; exact one_128 (by omega)
theorem QTX_ok {μ : Mem} {tx : List Nat} (h : QTX μ tx) : tx.length ≤ 71 ∧ ∀ c ∈ tx, c < 128 := by
  obtain ⟨w, f, hw, -, hf, rfl⟩ := h
  have := qtx_len1 (f := f) (i := w) (fun k hk => (hf k hk).1)
  exact ⟨by omega, qtx_128 w⟩
theorem GRp.out12 {μ ν : Mem} {s E P C O n w t dd h L : Nat} {π : Nat → Nat} {z : Int32} (H : GRp μ ν s E P C O n w t dd h π L) : GRp (st3 μ 12 0 12 z) ν s E P C O n w t dd h π L := by
  have hK : ∀ K, K ≠ 12 → (st3 μ 12 0 12 z) K = μ K := fun K k => st3_K k
  have h12 : ∀ f, f ≠ 12 → (st3 μ 12 0 12 z) 12 0 f = μ 12 0 f := fun f k => by rw [st3_ua, ua_N k]
  generalize (st3 μ 12 0 12 z) = μ' at hK h12 ⊢
  obtain ⟨⟨b1, b2⟩, a2, a3, a4, a5, a6, a7, a8, ⟨c1, c2⟩, a10⟩ := H
  refine ⟨⟨(h12 3 (by omega)).trans b1, (h12 4 (by omega)).trans b2⟩, by rw [hK 9 (by omega)]; exact a2, a3.mem (fun K q => hK K (by unfold setK at q; omega)),
    a4.cong ⟨by rw [hK 9 (by omega)], fun p _ => by rw [hK 5 (by omega)], fun o _ => by rw [hK 4 (by omega)], by rw [hK 27 (by omega)], by rw [hK 30 (by omega)], by rw [hK 31 (by omega)], by rw [hK 32 (by omega)], by rw [hK 33 (by omega)]⟩ (fun _ _ => rfl) a3.2.2.2.1 a3.2.2.2.2.1, a5,
    a6.fr (fun K q => hK K (by unfold setK at q; omega)) (fun j K i _ _ q => by rw [hK K (by unfold inS at q; omega)]) (by rw [hK 2 (by omega)]) (by rw [hK 34 (by omega)]) rfl rfl,
    a7.fr (fun K q => hK K (by unfold setK at q; omega)) (fun j K i _ _ q => by rw [hK K (by unfold inS at q; omega)]) (by rw [hK 36 (by omega)]) rfl rfl,
    a8.fr (by rw [hK 11 (by omega)]) (by rw [hK 20 (by omega)]) rfl rfl, ⟨(h12 10 (by omega)).trans c1, (h12 11 (by omega)).trans c2⟩, a10⟩
theorem GR.out12 {μ ν : Mem} {z : Int32} (H : GR μ ν) : GR (st3 μ 12 0 12 z) ν := by
  obtain ⟨s, E, P, C, O, n, w, t, dd, h, π, L, H⟩ := H
  exact ⟨s, E, P, C, O, n, w, t, dd, h, π, L, H.out12⟩
theorem wLI.write {μ ν ν' : Mem} {l tx : List Nat} {G G1 G2 : RG} {nx s n : Nat} {f : Nat → RV} (hI : wLI μ ν l G nx n) (hn : n < 512) (h1 : nx ≤ s) (h2 : s ≤ nx + 50) (hW : LM vc 0 535 (st3 μ 12 0 12 (nI s)) G1 G1) (hS : STo G1 s (s + 1) tx.length (ltx tx)) (hC : G1 547 = some (true, 3, 1, f)) (hG2 : LM vr 535 547 ν' G1 G2) (hg : GR μ ν') (ho : OUTM ν' tx) (ht : tx.length ≤ 71 ∧ ∀ c ∈ tx, c < 128) : wLI (st3 μ 12 0 12 (nI s)) ν' tx G2 (s + 2) (n + 1) ∧ G2 547 = some (true, 3, 1, f) := by
  obtain ⟨a1, a2, a3, a4, a5, a6, a7, a8⟩ := hI
  have e547 : G2 547 = some (true, 3, 1, f) := (hG2.2 547 (Or.inr (by decide))).trans hC
  have w1 := wB_s (n := n)
  have w2 := wB_lt hn
  refine ⟨⟨⟨fun K j hv => (hG2.2 _ (Or.inl (okC.2 K j hv).2)).trans (hW.1 K j hv), fun _ _ => rfl⟩, ⟨hG2.1, fun _ _ => rfl⟩, ⟨f, e547⟩, hg.out12, ho, ⟨ht.1, getD_128 ht.2, Or.inr ⟨s, ?_, by omega, Nat.le_refl _, by omega, hS.keep (hG2.2 s (Or.inr (by omega))) (hG2.2 (s + 1) (Or.inr (by omega)))⟩⟩, by omega, by omega⟩, e547⟩
  rw [st3_ua, ua_S]
/-! Shares and means: no answer is a NaN. -/
theorem TS_num {μ : Mem} {r : UInt32} (h : f_P_truthShare μ = some r) : okF9 r = true := by
  unfold f_P_truthShare at h
  obtain ⟨r1, -, h⟩ := bind_some9 h
  obtain ⟨v2, -, h⟩ := nm_some h
  by_cases c : v2 = 0
  · rw [if_pos c] at h
    cases h
    decide
  · rw [if_neg c] at h
    obtain ⟨r3, -, h⟩ := bind_some9 h
    obtain ⟨h4, h⟩ := chk_some h
    cases h
    exact h4
theorem MP_num {μ : Mem} {r : UInt64} (h : f_P_meanPrice μ = some r) : okD9 r = true := by
  unfold f_P_meanPrice at h
  obtain ⟨v2, -, h⟩ := nm_some h
  by_cases c : v2 = 0
  · rw [if_pos c] at h
    cases h
    decide
  · rw [if_neg c] at h
    obtain ⟨r3, -, h⟩ := bind_some9 h
    obtain ⟨h4, h⟩ := chk_some h
    cases h
    exact h4
theorem okF9_nan {r : UInt32} (h : okF9 r = true) : FP.Core.fIsNaN r = false := by
  have h1 : r &&& 0x7fffffff ≤ 0x7f800000 := of_decide_eq_true h
  rw [UInt32.le_iff_toNat_le, UInt32.toNat_and] at h1
  have e : (0x7fffffff : UInt32).toNat = 2 ^ 31 - 1 := by decide
  rw [e, Nat.and_two_pow_sub_one_eq_mod] at h1
  replace h1 : r.toNat % 2 ^ 31 ≤ 2139095040 := h1
  cases hq : FP.Core.fIsNaN r with
  | false => rfl
  | true =>
    rw [FP.Core.isNaN_bits32] at hq
    omega
theorem okD9_nan {r : UInt64} (h : okD9 r = true) : FP.Core.dIsNaN r = false := by
  have h1 : r &&& 0x7fffffffffffffff ≤ 0x7ff0000000000000 := of_decide_eq_true h
  rw [UInt64.le_iff_toNat_le, UInt64.toNat_and] at h1
  have e : (0x7fffffffffffffff : UInt64).toNat = 2 ^ 63 - 1 := by decide
  rw [e, Nat.and_two_pow_sub_one_eq_mod] at h1
  replace h1 : r.toNat % 2 ^ 63 ≤ 9218868437227405312 := h1
  cases hq : FP.Core.dIsNaN r with
  | false => rfl
  | true =>
    rw [FP.Core.isNaN_bits] at hq
    omega
theorem nan_vf {r : UInt64} (h : FP.Core.dIsNaN r = false) : vf_n64 r := by
  have h2 : ¬ 9218868437227405312 < r.toNat % 2 ^ 63 := by
    rw [← FP.Core.isNaN_bits, h]; decide
  show r &&& 0x7fffffffffffffff ≤ 0x7ff0000000000000
  rw [UInt64.le_iff_toNat_le, UInt64.toNat_and]
  have e : (0x7fffffffffffffff : UInt64).toNat = 2 ^ 63 - 1 := by decide
  rw [e, Nat.and_two_pow_sub_one_eq_mod]
  show _ ≤ 9218868437227405312
  omega
theorem f2d_num {r : UInt32} (h : okF9 r = true) : FP.Core.dIsNaN (FP.f2d r) = false := (FP.f2d_nan r).trans (okF9_nan h)
theorem cmp_rf {r : UInt64} (h : FP.Core.dIsNaN r = false) : Op.cmpValue (FP.dcmp r r) .l = 0 := by
  have e : FP.dcmp r r = some .eq := FP.Core.dcmp_self ((FP.Core.notNaN_iff r).mp h)
  rw [e]
  rfl

/-! The law's small methods: cell, pick, name, isOutput; what looking leaves. -/
theorem voK {b K : Nat} (h1 : 60 ≤ K) (h2 : K ≤ 80) : vo b K b := ⟨h1, h2, rfl⟩
theorem and16 (x : Int32) : x &&& 65535 = nI (x.toBitVec.toNat % 65536) := by
  apply Int32.toBitVec_inj.mp
  show x.toBitVec &&& 65535#32 = BitVec.ofNat 32 (x.toBitVec.toNat % 65536)
  apply BitVec.eq_of_toNat_eq
  rw [BitVec.toNat_and, BitVec.toNat_ofNat, BitVec.toNat_ofNat, show 65535 % 2 ^ 32 = 2 ^ 16 - 1 from rfl, Nat.and_two_pow_sub_one_eq_mod, Nat.mod_eq_of_lt (Nat.lt_of_lt_of_le (Nat.mod_lt _ (by decide)) (by decide))]
theorem rem_nI {a d : Nat} (ha : a < 2 ^ 31) (h0 : 0 < d) (hd : d < 2 ^ 31) : nI a - nI a / nI d * nI d = nI (a % d) := by
  have h1 : a / d * d ≤ a := Nat.div_mul_le_self a d
  rw [pk_div ha h0 hd, pk_mul, nI_sub h1]
  congr 1
  have := Nat.mod_add_div a d
  rw [Nat.mul_comm] at this
  omega
/-- the law's numbers -/
def AR (g : GL) : Prop := ∃ n f, n ≤ 260 ∧ g.2.2.2.2.2 90 = some (true, 0, n, f) ∧ ∀ i, i < n → ∃ x, f i = .inl (.int x)
section Small
variable {g : GL} {M : RM}
theorem M_cell (d : Nat) {k : Nat} (hA : AR g) (hk : k ≤ 1000) : Mt g d m_PL_cell [.inr (1, 90), .inl (.int (nI k))] M 0 0 (fun r M' => M' = M ∧ ∃ x, r = rI x) := by
  obtain ⟨n, f, hn, hf, hx⟩ := hA
  have hr : rdM g M (1, 90) = some (true, 0, n, f) := hf
  refine Mt.of9 [some (.inr (1, 90)), some (.inl (.int (nI k)))] (by decide +kernel) rfl rfl rfl rfl ?_
  refine ev_aload_n (k0 := 0) rfl d_PL_cell_0 ?_
  refine ev_alen hr d_PL_cell_1 ?_
  refine ev_if_ne (tgt := 9) (by decide) d_PL_cell_2 (fun c => ?_) (fun c => ?_)
  rotate_left
  · refine cw_iconst 0 d_PL_cell_5 rfl ?_
    refine ev_goto (tgt := 23) (by decide) d_PL_cell_6 ?_
    exact ev_ireturn (st := []) rfl rfl d_PL_cell_23 ⟨rfl, _, rfl⟩
  have hn0 : 0 < n := by
    rcases Nat.eq_zero_or_pos n with z | z
    · subst z; exact absurd rfl c
    · exact z
  have hne : ¬ Int32.ofNat n = 0 := ne_0 (k := n) (by omega) (by omega)
  refine ev_aload_n (k0 := 0) rfl d_PL_cell_9 ?_
  refine ev_iload_n (k0 := 1) rfl d_PL_cell_10 ?_
  refine ev_aload_n (k0 := 0) rfl d_PL_cell_11 ?_
  refine ev_alen hr d_PL_cell_12 ?_
  refine ev_irem hne d_PL_cell_13 ?_
  rw [show nI k - nI k / Int32.ofNat n * Int32.ofNat n = nI (k % n) from rem_nI (by omega) hn0 (by omega)]
  have hkn : k % n < n := Nat.mod_lt _ hn0
  refine ev_iald hr (vp_in_nI hkn (by omega)) d_PL_cell_14 ?_
  rw [nI_clamp (by omega)]
  obtain ⟨x, hx⟩ := hx _ hkn
  rw [hx]
  refine ev_ldc (v := 40503) kl_7 d_PL_cell_15 ?_
  refine ev_iload_n (k0 := 1) rfl d_PL_cell_17 ?_
  refine ev_aload_n (k0 := 0) rfl d_PL_cell_18 ?_
  refine ev_alen hr d_PL_cell_19 ?_
  refine ev_idiv hne d_PL_cell_20 ?_
  refine ev_imul d_PL_cell_21 ?_
  refine ev_ixor d_PL_cell_22 ?_
  exact ev_ireturn (st := []) rfl rfl d_PL_cell_23 ⟨rfl, _, rfl⟩
theorem M_pick (d : Nat) {k n : Nat} (hA : AR g) (hk : k ≤ 1000) (hn : 0 < n) (hn2 : n ≤ 100000) : Mt g (d + 1) m_PL_pick [.inr (1, 90), .inl (.int (nI k)), .inl (.int (nI n))] M 0 0 (fun r M' => M' = M ∧ ∃ j, j < n ∧ r = rI (nI j)) := by
  refine Mt.of9 [some (.inr (1, 90)), some (.inl (.int (nI k))), some (.inl (.int (nI n)))] (by decide +kernel) rfl rfl rfl rfl ?_
  refine ev_aload_n (k0 := 0) rfl d_PL_pick_0 ?_
  refine ev_iload_n (k0 := 1) rfl d_PL_pick_1 ?_
  refine Ev.z9 (cw_S [.inr (1, 90), .inl (.int (nI k))] lk_ProphecyShopLaw_8 (M_cell d hA hk) rfl rfl d_PL_pick_2 ⟨fun w M' hP => ?_, fun E M' hP => ?_⟩)
  · obtain ⟨rfl, x, hx⟩ := hP
    cases hx
    refine ev_ldc (v := 65535) kl_14 d_PL_pick_5 ?_
    refine ev_iand d_PL_pick_7 ?_
    rw [and16]
    have hz : x.toBitVec.toNat % 65536 < 65536 := Nat.mod_lt _ (by decide)
    generalize x.toBitVec.toNat % 65536 = z at hz
    refine ev_iload_n (k0 := 2) rfl d_PL_pick_8 ?_
    refine ev_irem (ne_0 (by omega) (by omega)) d_PL_pick_9 ?_
    rw [rem_nI (by omega) hn (by omega)]
    exact ev_ireturn (st := []) rfl rfl d_PL_pick_10 ⟨rfl, _, Nat.mod_lt _ hn, rfl⟩
  · obtain ⟨-, x, hx⟩ := hP
    cases hx
/-- kind + (char) ('a' + k) -/
theorem M_name (d : Nat) {G : RG} {nx w k p : Nat} (hS : SG g) (hw : w < 28) (hp : sTx w = [nI p]) (hp2 : p < 128) (hk : k < 26) : Mt g (d + 6) m_PL_name [.inr (1, w), .inl (.int (nI k))] (G, nx) 6 72 (fun r M' => ∃ s, r = .inr (some (.inr (0, s))) ∧ nx ≤ s ∧ s + 2 = M'.2 ∧ M'.2 ≤ nx + 6 ∧ SR g M' (0, s) (0, s + 1) [p, 97 + k] ∧ ∀ q, q < nx → M'.1 q = G q) := by
  have hs : SR g (G, nx) (1, w) (1, 40 + w) [p] := SR.of hS hw hp (fun i hi => by
    simp at hi; subst hi; exact hp2)
  refine Mt.of9 [some (.inr (1, w)), some (.inl (.int (nI k)))] (by decide +kernel) rfl rfl rfl rfl ?_
  refine Ev.room (mc := 1 + 4 + 1) (ms := 16 + 52 + 4) (ev_sbNew (B := 8) (d := d + 4) (by decide) cl_ProphecyShopLaw_35 lj_ProphecyShopLaw_37 rfl d_PL_name_0 d_PL_name_3 d_PL_name_4 (fun M1 b1 => ?_)) (by omega) (by omega)
  have n1 := b1.nx
  obtain ⟨G1, nx1⟩ := M1
  refine ev_aload_n (k0 := 0) rfl d_PL_name_7 ?_
  have hs1 : SR g (G1, nx1) (1, w) (1, 40 + w) [p] := SR.of hS hw hp (fun i hi => by
    simp at hi; subst hi; exact hp2)
  refine Ev.room (mc := 1 + 3) (ms := 2 * 8 + 36) (ev_appS (B := 8) (d := d + 1) (k9 := 0) b1 ⟨Nat.le_refl _, Nat.le_refl _⟩ (fun _ _ => rfl) hs1 (fun z => absurd z (by show ¬ (1 : Nat) = 0; decide)) lj_ProphecyShopLaw_38_1 (show 0 + 1 ≤ 8 by omega) rfl d_PL_name_8 (fun M2 b2 => ?_)) (by omega) (by omega)
  refine cw_bipush 97 d_PL_name_11 rfl ?_
  refine ev_iload_n (k0 := 1) rfl d_PL_name_13 ?_
  refine ev_iadd d_PL_name_14 ?_
  refine ev_i2c d_PL_name_15 ?_
  rw [show ((97 : Int32) + nI k) = nI (97 + k) from nI_add 97 k, i2c9 _ (by omega)]
  refine Ev.room (mc := 1 + 2) (ms := 2 * 8 + 20) (ev_appC (B := 8) (d := d + 1) b2 lj_ProphecyShopLaw_41_1 (by omega) (show 1 + 1 ≤ 8 by omega) rfl d_PL_name_16 (fun M3 b3 => ?_)) (by omega) (by omega)
  have n3 := b3.nx
  refine Ev.room (mc := 2 + 0) (ms := 2 * 8 + 4 + 0) (ev_toStr (B := 8) (d := d) b3 lj_ProphecyShopLaw_44_1 rfl d_PL_name_19 (fun G' s hT hs1 hs2 hF => ?_)) (by omega) (by omega)
  refine ev_areturn (st := []) rfl (Or.inl ⟨_, rfl⟩) d_PL_name_22 ⟨s, rfl, hs1, rfl, by show s + 2 ≤ nx + 6; omega, ?_, hF⟩
  refine SR.ofSTo (l := [p, 97 + k]) hT (fun i hi => rfl) (fun i hi => ?_) (by omega) (by omega)
  replace hi : i < 2 := hi
  rcases (show i = 0 ∨ i = 1 by omega) with rfl | rfl
  · exact hp2
  · show 97 + k < 128
    omega
end Small
/-- what looking leaves: the written text, and the scratch shop -/
def FrL (μ m : Mem) : Prop := (∀ K i, ¬ inS 1 K i → K ≠ 12 → m K i = μ K i) ∧ ∀ f, f ≠ 12 → m 12 0 f = μ 12 0 f
theorem FrL.rf {μ : Mem} : FrL μ μ := ⟨fun _ _ _ _ => rfl, fun _ _ => rfl⟩
theorem FrL.tr {μ m m' : Mem} (h : FrL μ m) (h' : FrL m m') : FrL μ m' := ⟨fun K i a b => (h'.1 K i a b).trans (h.1 K i a b), fun f a => (h'.2 f a).trans (h.2 f a)⟩
theorem FrF.frl {μ m : Mem} (h : FrF μ m) : FrL μ m := ⟨fun K i a _ => h K i a, fun f _ => by rw [h.m12]⟩
theorem FrL.out {μ : Mem} {x : Int32} : FrL μ (st3 μ 12 0 12 x) := ⟨fun K i _ k => by rw [st3_K k], fun f hf => by rw [st3_ua, ua_N hf]⟩
section Fr
variable {c0 : Int32} {μ v : Mem} {s b E P C O n w t dd : Nat}
theorem FrL.qs {m : Mem} (h : FrL μ m) (hQ : QS c0 μ 0 s b v E P C O n w t dd) : QS c0 m 0 s b v E P C O n w t dd :=
  hQ.mem (fun K i q => h.1 K i (by unfold inS at q ⊢; omega) (by unfold inS at q; omega)) (fun K q => by funext i; exact h.1 K i (by unfold inS; unfold setK at q; omega) (by unfold setK at q; omega))
theorem FrL.his {m : Mem} {h K : Nat} {pl : Nat → Nat × Mem} (hf : FrL μ m) (hH : HIS c0 μ s E P C O h K pl) : HIS c0 m s E P C O h K pl :=
  hH.fr (fun K q => by funext i; exact hf.1 K i (by unfold inS; unfold setK at q; omega) (by unfold setK at q; omega)) (fun j K i j1 j2 q => hf.1 K i (by unfold inS at q ⊢; omega) (by unfold inS at q; omega)) (by rw [hf.1 2 0 (by unfold inS; omega) (by omega)]) (hf.1 34 0 (by unfold inS; omega) (by omega))
theorem FrL.m12 {m : Mem} (h : FrL μ m) : m 12 0 3 = μ 12 0 3 := h.2 3 (by omega)
end Fr
/-- cells behind the shop's stand as they stood -/
def KB (nx : Nat) (G G' : RG) : Prop := ∀ q, 535 ≤ q → q < nx → G' q = G q
theorem KB.rf {nx : Nat} {G : RG} : KB nx G G := fun _ _ _ => rfl
theorem KB.tr {nx nx' : Nat} {G G' G'' : RG} (h : KB nx G G') (h' : KB nx' G' G'') (hn : nx ≤ nx') : KB nx G G'' := fun q a c => (h' q a (by omega)).trans (h q a c)
theorem KB.own {nx b : Nat} {G G' : RG} {v : Mem} (h : KB nx G G') (hO : LM (vo b) b (b + 21) v G G) (hb : 535 ≤ b) (hb2 : b + 21 ≤ nx) : LM (vo b) b (b + 21) v G' G' := ⟨fun K j hv => by
  have := okO.2 K j hv
  exact (h _ (by omega) (by omega)).trans (hO.1 K j hv), fun _ _ => rfl⟩
theorem KB.sr {g : GL} {nx nx' : Nat} {G G' : RG} {r v : Nat × Nat} {l : List Nat} (h : KB nx G G') (hs : SR g (G, nx) r v l) (hn : nx ≤ nx') (hr : r.1 = 0 → 535 ≤ r.2) (hv : v.1 = 0 → 535 ≤ v.2) : SR g (G', nx') r v l := hs.keep hn (fun q h1 h2 => h q (by
  rcases h2 with h2 | h2
  · exact (by have := hr (by rw [h2]); rw [h2] at this; exact this)
  · exact (by have := hv (by rw [h2]); rw [h2] at this; exact this)) h1)
theorem LM.refl {V : Nat → Nat → Prop} {lo hi : Nat} {μ : Mem} {F G : RG} (h : LM V lo hi μ F G) : LM V lo hi μ G G := ⟨h.1, fun _ _ => rfl⟩
/-- the shop's cells are written: those behind them stand -/
theorem LM.kb {nx : Nat} {μ : Mem} {F G : RG} (h : LM vc 0 535 μ F G) : KB nx F G := fun q a _ => h.2 q (Or.inr a)
/-- the text l, the class's output is at most 72 long -/
theorem M_isOutput (d : Nat) {g : GL} {G : RG} {nx : Nat} {μ : Mem} {r v : Nat × Nat} {l : List Nat} (hS : SG g) (hG : LM vc 0 535 μ G G) (hO : OUTR G nx (μ 12 0 12) l) (hs : SR g (G, nx) r v l) : Mt g (d + 5) m_PL_isOutput [.inr (0, off 12 0), .inl (.int (nI l.length)), .inr r] (G, nx) 0 0 (pRO (rI 1) (G, nx)) := by
  have hl := hO.1
  have hs0 := hs
  obtain ⟨ci, n2, f2, b0, g1, g2, g3, g4, g5, g6, g7, g8, g9⟩ := hs
  have lk1 : LV "ProphecyShopLaw" 15 ci 0 m_String_length_8abf5 := by
    rcases g1 with rfl | rfl
    · exact lj_ProphecyShopLaw_15_0
    · exact lj_ProphecyShopLaw_15_14
  have lk2 : LV "ProphecyShopLaw" 21 ci 1 m_String_charAt_5068e := by
    rcases g1 with rfl | rfl
    · exact lj_ProphecyShopLaw_21_0
    · exact lj_ProphecyShopLaw_21_14
  refine Mt.of9 [some (.inr (0, off 12 0)), some (.inl (.int (nI l.length))), some (.inr r), none] (by decide +kernel) rfl rfl rfl rfl ?_
  refine ev_iload_n (k0 := 1) rfl d_PL_isOutput_0 ?_
  refine ev_aload_n (k0 := 2) rfl d_PL_isOutput_1 ?_
  refine Ev.z9 (ev_invV (vs := []) g2 lk1 (M_length (d + 3) g1 g2 g3 g4 g5) rfl (Nat.le_of_ble_eq_true rfl) d_PL_isOutput_2 (aft_ro ?_))
  refine ev_icmp_eq (tgt := 10) (by decide) d_PL_isOutput_5 (fun _ => ?_) (fun c => absurd rfl c)
  refine cw_iconst 0 d_PL_isOutput_10 rfl ?_
  refine cw_istoreN_n 3 0 rfl [some (.inr (0, off 12 0)), some (.inl (.int (nI l.length))), some (.inr r), some (.inl (.int (nI 0)))] d_PL_isOutput_11 rfl rfl rfl ?_
  suffices H : ∀ j k, k + j = l.length + 1 → Ev g (d + 5) m_PL_isOutput 12 [some (.inr (0, off 12 0)), some (.inl (.int (nI l.length))), some (.inr r), some (.inl (.int (nI k)))] [] (G, nx) 0 0 (pRO (rI 1) (G, nx)) from H (l.length + 1) 0 (by omega)
  intro j
  induction j with
  | zero =>
    intro k hk
    refine ev_iload_n (k0 := 3) rfl d_PL_isOutput_12 ?_
    refine ev_iload_n (k0 := 1) rfl d_PL_isOutput_13 ?_
    refine ev_icmp_gt (tgt := 47) (by decide) d_PL_isOutput_14 (fun _ => ?_) (fun c => absurd (nI_lt (show l.length < k by omega) (by omega)) c)
    refine cw_iconst 1 d_PL_isOutput_47 rfl ?_
    exact ev_ireturn (st := []) rfl rfl d_PL_isOutput_48 ⟨rfl, rfl⟩
  | succ j ih =>
    intro k hk
    refine ev_iload_n (k0 := 3) rfl d_PL_isOutput_12 ?_
    refine ev_iload_n (k0 := 1) rfl d_PL_isOutput_13 ?_
    refine ev_icmp_gt (tgt := 47) (by decide) d_PL_isOutput_14 (fun c => absurd c (nI_nlt (show k ≤ l.length by omega) (by omega))) (fun _ => ?_)
    refine ev_aload_n (k0 := 0) rfl d_PL_isOutput_17 ?_
    refine ev_iload_n (k0 := 3) rfl d_PL_isOutput_18 ?_
    have K : Ev g (d + 5) m_PL_isOutput 41 [some (.inr (0, off 12 0)), some (.inl (.int (nI l.length))), some (.inr r), some (.inl (.int (nI k)))] [] (G, nx) 0 0 (pRO (rI 1) (G, nx)) := by
      refine cw_iincN 3 1 [some (.inr (0, off 12 0)), some (.inl (.int (nI l.length))), some (.inr r), some (.inl (.int (nI (k + 1))))] d_PL_isOutput_41 rfl rfl rfl rfl (by rw [nI_1]; rfl) ?_
      refine ev_goto (tgt := 12) (by decide) d_PL_isOutput_44 ?_
      exact ih (k + 1) (by omega)
    by_cases e : k = l.length
    · have h0 : ixB (nI k) l.length = 0 := by
        unfold ixB
        rw [if_pos (Or.inr (nI_le (by omega) (by omega)))]
      refine Ev.z9 (cv_V [.inl (.int (nI k))] hG v_12 rfl lk_ProphecyShopLaw_48 (M_outputByte d hS hG hO (x := nI k) (r := -1) (Or.inl ⟨h0, rfl⟩)) rfl rfl d_PL_isOutput_19 (aft_ro ?_))
      refine ev_iload_n (k0 := 3) rfl d_PL_isOutput_22 ?_
      refine ev_iload_n (k0 := 1) rfl d_PL_isOutput_23 ?_
      refine ev_icmp_ne (tgt := 31) (by decide) d_PL_isOutput_24 (fun c => absurd (by rw [e]) c) (fun _ => ?_)
      refine cw_iconst (-1) d_PL_isOutput_27 rfl ?_
      refine ev_goto (tgt := 36) (by decide) d_PL_isOutput_28 ?_
      refine ev_icmp_eq (tgt := 41) (by decide) d_PL_isOutput_36 (fun _ => K) (fun c => absurd rfl c)
    · refine Ev.z9 (cv_V [.inl (.int (nI k))] hG v_12 rfl lk_ProphecyShopLaw_48 (M_outputByte d hS hG hO (x := nI k) (r := nI (l.getD k 0)) (Or.inr ⟨k, by omega, rfl, rfl⟩)) rfl rfl d_PL_isOutput_19 (aft_ro ?_))
      refine ev_iload_n (k0 := 3) rfl d_PL_isOutput_22 ?_
      refine ev_iload_n (k0 := 1) rfl d_PL_isOutput_23 ?_
      refine ev_icmp_ne (tgt := 31) (by decide) d_PL_isOutput_24 (fun _ => ?_) (fun c => absurd ((nI_eq (by omega) (by omega)).mp c) e)
      refine ev_aload_n (k0 := 2) rfl d_PL_isOutput_31 ?_
      refine ev_iload_n (k0 := 3) rfl d_PL_isOutput_32 ?_
      refine Ev.z9 (ev_invV (vs := [.inl (.int (nI k))]) g2 lk2 (M_charAt (d + 1) g1 g2 g3 g4 g5 (inb_of (by omega) (by omega)) (by omega) (by rw [nI_clamp (by omega)]; exact g6 k (by omega)) (okc_n _ (g7 k (by omega)))) rfl (Nat.le_of_ble_eq_true rfl) d_PL_isOutput_33 (aft_ro ?_))
      refine ev_icmp_eq (tgt := 41) (by decide) d_PL_isOutput_36 (fun _ => K) (fun c => absurd rfl c)

/-! The text: append, truncate. -/
theorem sh_and (b : BitVec 32) (k : Nat) (hk : k ≤ 24) : b.sshiftRight k &&& 255#32 = b >>> k &&& 255#32 := by
  apply BitVec.eq_of_getLsbD_eq
  intro i hi
  simp only [BitVec.getLsbD_and, BitVec.getLsbD_sshiftRight, BitVec.getLsbD_ushiftRight]
  by_cases h : i < 8
  · have h1 : ¬ 32 ≤ i := by omega
    have h2 : k + i < 32 := by omega
    simp [h1, h2]
  · have h3 : (255#32).getLsbD i = false := by
      show Nat.testBit 255 i = false
      apply Nat.testBit_lt_two_pow
      exact Nat.lt_of_lt_of_le (show 255 < 2 ^ 8 by omega) (Nat.pow_le_pow_right (by omega) (by omega))
    rw [h3]
    simp
/-- a byte of four -/
def bt (x : Int32) (k : Nat) : Nat := x.toBitVec.toNat / 2 ^ k % 256
theorem bt_lt (x : Int32) (k : Nat) : bt x k < 256 := Nat.mod_lt _ (by omega)
theorem nI_bv (n : Nat) : (nI n).toBitVec = BitVec.ofNat 32 n := rfl
theorem bt_u (x : Int32) (k : Nat) (hk : k ≤ 24) : (x.toBitVec >>> k &&& 255#32) = BitVec.ofNat 32 (bt x k) := by
  apply BitVec.eq_of_toNat_eq
  rw [BitVec.toNat_and, BitVec.toNat_ushiftRight, BitVec.toNat_ofNat, BitVec.toNat_ofNat, show 255 % 2 ^ 32 = 2 ^ 8 - 1 from rfl, Nat.and_two_pow_sub_one_eq_mod, Nat.shiftRight_eq_div_pow, Nat.mod_eq_of_lt (Nat.lt_of_lt_of_le (bt_lt x k) (by decide))]
  rfl
theorem bt_C (x : Int32) {k : Nat} (hk : k = 24 ∨ k = 16 ∨ k = 8 ∨ k = 0) : (((x.toUInt32 >>> ((nI k).toUInt32 &&& Int32.toUInt32 31)).toInt32) &&& 255) = nI (bt x k) := by
  apply Int32.toBitVec_inj.mp
  have h := bt_u x k (by omega)
  rw [nI_bv, ← h]
  rcases hk with rfl | rfl | rfl | rfl <;> rfl
theorem bt_R (x : Int32) {k : Nat} (hk : k = 24 ∨ k = 16 ∨ k = 8 ∨ k = 0) : ((x >>> ((nI k) &&& 31)) &&& 255) = nI (bt x k) := by
  apply Int32.toBitVec_inj.mp
  have h := bt_u x k (by omega)
  have h2 := sh_and x.toBitVec k (by omega)
  rw [nI_bv, ← h, ← h2]
  rcases hk with rfl | rfl | rfl | rfl <;> rfl
def shv (i : Nat) : Int32 := if i < 4 then nI (24 - 8 * i) else -8
theorem shv_n {i : Nat} (h : i < 4) : shv i = nI (24 - 8 * i) := if_pos h
theorem shv_s {i : Nat} (h : i < 4) : nI (24 - 8 * i) + (-8) = shv (i + 1) := by
  rcases (show i = 0 ∨ i = 1 ∨ i = 2 ∨ i = 3 by omega) with rfl | rfl | rfl | rfl <;> rfl
theorem shv_k {i : Nat} (h : i < 4) : 24 - 8 * i = 24 ∨ 24 - 8 * i = 16 ∨ 24 - 8 * i = 8 ∨ 24 - 8 * i = 0 := by omega
def bz (x : Int32) (i : Nat) : Bool := decide (¬ bt x (24 - 8 * i) = 0)
def ctb (x : Int32) : Nat := ct (bz x) 4
theorem ctb_le (x : Int32) : ctb x ≤ 4 := ct_le
theorem ct_mono {P : Nat → Bool} {m : Nat} : ∀ {k : Nat}, ct P m ≤ ct P (m + k)
  | 0 => Nat.le_refl _
  | k + 1 => Nat.le_trans (ct_mono (k := k)) (Nat.le_add_right _ _)
theorem ct_up {P : Nat → Bool} {m n : Nat} (h : m ≤ n) : ct P m ≤ ct P n := by
  have := ct_mono (P := P) (m := m) (k := n - m)
  rwa [show m + (n - m) = n by omega] at this
section Text
variable {μ ν : Mem}
theorem C_bytesIn (x : Int32) : f_Text_bytesIn x μ = some (nI (ctb x)) := by
  unfold f_Text_bytesIn
  refine it_fr (f := fun s : Int32 × Int32 => s_Text_bytesIn_5 x s.1 s.2 μ) (s := (0, 24)) (fun i q => q = (nI (ct (bz x) i), shv i)) (fun q => q = nI (ctb x)) 4 0 (by omega) (by omega) rfl ?_ ?_ (fun r q1 q2 => by rw [q1, bind_s, q2])
  · rintro i hi _ rfl
    show ∃ s', s_Text_bytesIn_5 x (nI (ct (bz x) i)) (shv i) μ = some (.inl s') ∧ _
    unfold s_Text_bytesIn_5
    rw [shv_n hi, if_neg (nI_pos (by omega)), bt_C x (shv_k hi), shv_s hi, nI_1]
    have q : ct (bz x) (i + 1) = ct (bz x) i + (if bz x i = true then 1 else 0) := rfl
    by_cases c : bt x (24 - 8 * i) = 0
    · rw [c, if_pos (show nI 0 = 0 from rfl)]
      refine ⟨_, rfl, ?_⟩
      rw [q, if_neg (by unfold bz; rw [c]; decide)]
      rfl
    · rw [if_neg (ne_0 (by omega) (Nat.lt_trans (bt_lt x _) (by omega)))]
      refine ⟨_, rfl, ?_⟩
      rw [q, if_pos (by unfold bz; exact decide_eq_true c)]
  · rintro _ rfl
    show ∃ r, s_Text_bytesIn_5 x (nI (ct (bz x) 4)) (shv 4) μ = some (.inr r) ∧ _
    unfold s_Text_bytesIn_5
    rw [if_pos (by decide)]
    exact ⟨_, rfl, rfl⟩
/-- only the text has changed -/
def FT (μ m ν v : Mem) : Prop := (∀ K, K ≠ 11 → K ≠ 20 → m K = μ K) ∧ (∀ K, K ≠ 13 → K ≠ 46 → v K = ν K) ∧ ∀ f, f ≠ 9 → v 13 0 f = ν 13 0 f
theorem FT.rf : FT μ μ ν ν := ⟨fun _ _ _ => rfl, fun _ _ _ => rfl, fun _ _ => rfl⟩
theorem FT.tr {m m' v v' : Mem} (h : FT μ m ν v) (h' : FT m m' v v') : FT μ m' ν v' := ⟨fun K a b => (h'.1 K a b).trans (h.1 K a b), fun K a b => (h'.2.1 K a b).trans (h.2.1 K a b), fun f a => (h'.2.2 f a).trans (h.2.2 f a)⟩
/-- one byte more -/
theorem TXT.put {L b : Nat} (h : TXT μ ν L) (hL : L < 800) (hb : 1 ≤ b) (hb2 : b ≤ 255) : TXT (st3 (st3 μ 20 0 L (nI b)) 11 0 1 (nI (L + 1))) (st3 (st3 ν 46 0 L (nI b)) 13 0 9 (nI (L + 1))) (L + 1) ∧ FT μ (st3 (st3 μ 20 0 L (nI b)) 11 0 1 (nI (L + 1))) ν (st3 (st3 ν 46 0 L (nI b)) 13 0 9 (nI (L + 1))) := by
  obtain ⟨h1, h2, h3, h4⟩ := h
  refine ⟨⟨by omega, by rw [st3_ua, ua_S], by rw [st3_ua, ua_S], fun i hi => ?_⟩, fun K a b => by rw [st3_K a, st3_K b], fun K a b => by rw [st3_K a, st3_K b], fun f hf => by rw [st3_ua, ua_N hf, st3_K (by omega)]⟩
  rw [st3_K (show 20 ≠ 11 by omega), st3_K (show 46 ≠ 13 by omega), st3_ua, st3_ua]
  by_cases e : i = L
  · subst e
    rw [ua_S, ua_S]
    exact ⟨b, hb, hb2, rfl, rfl⟩
  · rw [ua_N e, ua_N e]
    exact h4 i (by omega)
theorem L_feed {x : Int32} {L : Nat} (h : TXT μ ν L) (hL : L + ctb x ≤ 800) : ∃ m v, f_Text_putBytesOf x μ = some m ∧ f_R_feeds x ν = some v ∧ TXT m v (L + ctb x) ∧ FT μ m ν v := by
  unfold f_Text_putBytesOf f_R_feeds
  refine it_fr2 (f1 := fun s : Int32 × Mem => s_Text_putBytesOf_3 x s.1 s.2) (f2 := fun s : Int32 × Mem => s_R_feeds_3 x s.1 s.2) (a := (24, μ)) (b := (24, ν))
    (fun i a b => ∃ m v, a = (shv i, m) ∧ b = (shv i, v) ∧ TXT m v (L + ct (bz x) i) ∧ FT μ m ν v) (fun m v => TXT m v (L + ctb x) ∧ FT μ m ν v) 4 0 (by omega) (by omega) ⟨μ, ν, rfl, rfl, h, FT.rf⟩ ?_ ?_ (fun r1 r2 q1 q2 q3 => ⟨r1, r2, by rw [q1, bind_s], by rw [q2, bind_s], q3⟩)
  · rintro i hi _ _ ⟨m, v, rfl, rfl, hX, hF⟩
    left
    show ∃ a' b', s_Text_putBytesOf_3 x (shv i) m = some (.inl a') ∧ s_R_feeds_3 x (shv i) v = some (.inl b') ∧ _
    unfold s_Text_putBytesOf_3 s_R_feeds_3
    have q : ct (bz x) (i + 1) = ct (bz x) i + (if bz x i = true then 1 else 0) := rfl
    rw [shv_n hi, if_neg (nI_pos (by omega)), bt_C x (shv_k hi), shv_s hi, if_neg (nI_pos (by omega)), bt_R x (shv_k hi), nm_9, nm_9]
    by_cases c : bt x (24 - 8 * i) = 0
    · rw [c, if_pos (show nI 0 = 0 from rfl), if_pos (show nI 0 = 0 from rfl)]
      refine ⟨_, _, rfl, rfl, m, v, rfl, rfl, ?_, hF⟩
      rw [q, if_neg (by unfold bz; rw [c]; decide)]
      exact hX
    · have hb := bt_lt x (24 - 8 * i)
      have hup : ct (bz x) (i + 1) ≤ ctb x := ct_up (by omega)
      rw [q, if_pos (by unfold bz; exact decide_eq_true c)] at hup
      obtain ⟨g1, g2⟩ := hX.put (b := bt x (24 - 8 * i)) (by omega) (by omega) (by omega)
      rw [if_neg (ne_0 (by omega) (by omega)), if_neg (ne_0 (by omega) (by omega))]
      unfold f_Text_put
      rw [hX.2.1, hX.2.2.1, if_neg (gl_800 (by omega)), if_neg (gl_800 (by omega)), chk_of (inb_of (by omega) (by omega)), chk_of (inb_of (by omega) (by omega)), nI_clamp (by omega), nm_9, nm_9, nm_9, bind_s, bind_s, nm_9, st3_K (show 11 ≠ 20 by omega), st3_K (show 13 ≠ 46 by omega), hX.2.1, hX.2.2.1, nI_1]
      refine ⟨_, _, rfl, rfl, _, _, rfl, rfl, ?_, hF.tr g2⟩
      rw [q, if_pos (by unfold bz; exact decide_eq_true c)]
      exact g1
  · rintro _ _ ⟨m, v, rfl, rfl, hX, hF⟩
    show ∃ r1 r2, s_Text_putBytesOf_3 x (shv 4) m = some (.inr r1) ∧ s_R_feeds_3 x (shv 4) v = some (.inr r2) ∧ _
    unfold s_Text_putBytesOf_3 s_R_feeds_3
    rw [if_pos (by decide), if_pos (by decide)]
    exact ⟨_, _, rfl, rfl, hX, hF⟩
/-- too long: only the model feeds -/
def FM (L : Nat) (ν v : Mem) : Prop := (∀ K, K ≠ 13 → K ≠ 46 → v K = ν K) ∧ (∀ f, f ≠ 9 → v 13 0 f = ν 13 0 f) ∧ ∀ i, i < L → v 46 0 i = ν 46 0 i
theorem FM.rf {L : Nat} : FM L ν ν := ⟨fun _ _ _ => rfl, fun _ _ => rfl, fun _ _ => rfl⟩
theorem FM.tr {L : Nat} {v v' : Mem} (h : FM L ν v) (h' : FM L v v') : FM L ν v' := ⟨fun K a b => (h'.1 K a b).trans (h.1 K a b), fun f a => (h'.2.1 f a).trans (h.2.1 f a), fun i a => (h'.2.2 i a).trans (h.2.2 i a)⟩
theorem M_feed {x : Int32} {L f : Nat} (h9 : ν 13 0 9 = nI f) (hf : L ≤ f) (hf2 : f ≤ 1000) : ∃ v, f_R_feeds x ν = some v ∧ v 13 0 9 = nI (f + ctb x) ∧ FM L ν v := by
  unfold f_R_feeds
  refine it_fr (f := fun s : Int32 × Mem => s_R_feeds_3 x s.1 s.2) (s := (24, ν)) (fun i q => ∃ v, q = (shv i, v) ∧ v 13 0 9 = nI (f + ct (bz x) i) ∧ FM L ν v) (fun v => v 13 0 9 = nI (f + ctb x) ∧ FM L ν v) 4 0 (by omega) (by omega) ⟨ν, rfl, h9, FM.rf⟩ ?_ ?_ (fun r q1 q2 => ⟨r, by rw [q1, bind_s], q2⟩)
  · rintro i hi _ ⟨v, rfl, hX, hF⟩
    show ∃ b', s_R_feeds_3 x (shv i) v = some (.inl b') ∧ _
    unfold s_R_feeds_3
    have q : ct (bz x) (i + 1) = ct (bz x) i + (if bz x i = true then 1 else 0) := rfl
    have hle : ct (bz x) i ≤ i := ct_le
    rw [shv_n hi, if_neg (nI_pos (by omega)), shv_s hi, bt_R x (shv_k hi), nm_9]
    by_cases c : bt x (24 - 8 * i) = 0
    · rw [c, if_pos (show nI 0 = 0 from rfl)]
      refine ⟨_, rfl, v, rfl, ?_, hF⟩
      rw [q, if_neg (by unfold bz; rw [c]; decide)]
      exact hX
    · have hb := bt_lt x (24 - 8 * i)
      rw [if_neg (ne_0 (by omega) (by omega)), hX]
      have q' : ct (bz x) (i + 1) = ct (bz x) i + 1 := by rw [q, if_pos (by unfold bz; exact decide_eq_true c)]
      by_cases c8 : f + ct (bz x) i < 800
      · rw [if_neg (gl_800 c8), chk_of (inb_of c8 (by omega)), nI_clamp (by omega), nm_9, bind_s, nm_9, st3_K (show 13 ≠ 46 by omega), hX, nI_1]
        refine ⟨_, rfl, _, rfl, by rw [st3_ua, ua_S, q']; rfl, hF.tr ⟨fun K a b => by rw [st3_K a, st3_K b], fun f hf => by rw [st3_ua, ua_N hf, st3_K (by omega)], fun k hk => by rw [st3_K (by omega), st3_ua, ua_N (by omega)]⟩⟩
      · rw [if_pos (lg_800 (by omega) (by omega)), bind_s, nm_9, hX, nI_1]
        refine ⟨_, rfl, _, rfl, by rw [st3_ua, ua_S, q']; rfl, hF.tr ⟨fun K a b => by rw [st3_K a], fun f hf => by rw [st3_ua, ua_N hf], fun k hk => by rw [st3_K (by omega)]⟩⟩
  · rintro _ ⟨v, rfl, hX, hF⟩
    show ∃ r, s_R_feeds_3 x (shv 4) v = some (.inr r) ∧ _
    unfold s_R_feeds_3
    rw [if_pos (by decide)]
    exact ⟨_, rfl, hX, hF⟩
theorem GRp.txt {m v : Mem} {s E P C O n w t dd h L L' : Nat} {π : Nat → Nat} (H : GRp μ ν s E P C O n w t dd h π L) (hm : ∀ K, K ≠ 11 → K ≠ 20 → m K = μ K) (hK : ∀ K, K ≠ 13 → K ≠ 46 → v K = ν K) (h13 : ∀ f, f ≠ 7 → f ≠ 9 → v 13 0 f = ν 13 0 f) (hX : TXT m v L') : GRp m v s E P C O n w t dd h π L' := by
  obtain ⟨a1, a2, a3, a4, a5, a6, a7, a8, a9, a10⟩ := H
  have hC : C ≤ 8 := a3.2.2.2.1
  have hO : O ≤ 5 := a3.2.2.2.2.1
  have mS : ∀ K, setK K → m K = μ K := fun K q => hm K (by unfold setK at q; omega) (by unfold setK at q; omega)
  have h40 : v 40 = ν 40 := hK 40 (by omega) (by omega)
  refine ⟨?_, ?_, ?_, ?_, a5, ?_, ?_, hX, ?_, ?_⟩
  · rw [hm 12 (by omega) (by omega)]; exact a1
  · rw [hm 9 (by omega) (by omega)]; exact a2
  · rw [h40]; exact a3.mem mS
  · rw [h40]; exact a4.cong ⟨by rw [hm 9 (by omega) (by omega)], fun p hp => by rw [hm 5 (by omega) (by omega)], fun o ho => by rw [hm 4 (by omega) (by omega)], by rw [hm 27 (by omega) (by omega)], by rw [hm 30 (by omega) (by omega)], by rw [hm 31 (by omega) (by omega)], by rw [hm 32 (by omega) (by omega)], by rw [hm 33 (by omega) (by omega)]⟩ (fun _ _ => rfl) hC hO
  · exact a6.fr mS (fun j K i' j1 j2 q => by rw [hm K (by unfold inS at q; omega) (by unfold inS at q; omega)]) (by rw [hm 2 (by omega) (by omega)]) (by rw [hm 34 (by omega) (by omega)]) (by rw [hK 43 (by omega) (by omega)]) (h13 6 (by omega) (by omega))
  · exact a7.fr mS (fun j K i j1 j2 q => by rw [hm K (by unfold inS at q; omega) (by unfold inS at q; omega)]) (by rw [hm 36 (by omega) (by omega)]) (by rw [hK 44 (by omega) (by omega)]) (by rw [hK 45 (by omega) (by omega)])
  · rw [hm 12 (by omega) (by omega), h13 10 (by omega) (by omega), h13 11 (by omega) (by omega)]; exact a9
  · rw [h13 22 (by omega) (by omega)]; exact a10
theorem T_append (hG : GR μ ν) (x1 x2 x3 x4 x5 : Int32) : ChOK μ ν [(xISE, 1)] (f_P_append x1 x2 x3 x4 x5 μ) (f_R_append x1 x2 x3 x4 x5 ν) := by
  obtain ⟨s, E, P, C, O, n, w, t, dd, h, π, L, H⟩ := hG
  have hX : TXT μ ν L := H.2.2.2.2.2.2.2.1
  have hL : L ≤ 800 := hX.1
  have k1 := ctb_le x1
  have k2 := ctb_le x2
  have k3 := ctb_le x3
  have k4 := ctb_le x4
  have k5 := ctb_le x5
  have hX0 : TXT μ (st3 ν 13 0 7 0) L := hX.fr rfl rfl (by rw [st3_ua, ua_N (by omega)]) (by rw [st3_K (by omega)])
  have eC : f_P_append x1 x2 x3 x4 x5 μ = if nI (L + (ctb x1 + ctb x2 + ctb x3 + ctb x4 + ctb x5)) ≤ 800 then (((f_Text_putBytesOf x1 μ)).bind (fun r8 => ((f_Text_putBytesOf x2 r8)).bind (fun r9 => ((f_Text_putBytesOf x3 r9)).bind (fun r10 => ((f_Text_putBytesOf x4 r10)).bind (fun r11 => ((f_Text_putBytesOf x5 r11)).bind (fun r12 => ((f_Text_size r12)).bind (fun r13 => some ((.inr r13, r12))))))))) else (some ((.inl xISE, μ))) := by
    unfold f_P_append
    rw [C_bytesIn, bind_s, C_bytesIn, bind_s, C_bytesIn, bind_s, C_bytesIn, bind_s, C_bytesIn, bind_s, nm_9]
    rw [show f_Text_size μ = some (nI L) by unfold f_Text_size; rw [hX.2.1], bind_s, nI_add, nI_add, nI_add, nI_add, nI_add]
  by_cases c : L + (ctb x1 + ctb x2 + ctb x3 + ctb x4 + ctb x5) ≤ 800
  · rw [if_pos (le_800 c)] at eC
    obtain ⟨m1, v1, e1, g1, X1, F1⟩ := L_feed (x := x1) hX0 (by omega)
    obtain ⟨m2, v2, e2, g2, X2, F2⟩ := L_feed (x := x2) X1 (by omega)
    obtain ⟨m3, v3, e3, g3, X3, F3⟩ := L_feed (x := x3) X2 (by omega)
    obtain ⟨m4, v4, e4, g4, X4, F4⟩ := L_feed (x := x4) X3 (by omega)
    obtain ⟨m5, v5, e5, g5, X5, F5⟩ := L_feed (x := x5) X4 (by omega)
    have F := (((F1.tr F2).tr F3).tr F4).tr F5
    have h7 : v5 13 0 7 = 0 := (F.2.2 7 (by omega)).trans th0
    refine ⟨.inr (nI (L + ctb x1 + ctb x2 + ctb x3 + ctb x4 + ctb x5)), nI (L + ctb x1 + ctb x2 + ctb x3 + ctb x4 + ctb x5), m5, v5, ?_, ?_, Or.inl ⟨rfl, h7⟩, (H.txt F.1 (fun K a b => (F.2.1 K a b).trans (st3_K a)) (fun f a b => (F.2.2 f b).trans (by rw [st3_ua, ua_N a])) X5).gr, by rw [F.1 12 (by omega) (by omega)], ?_, ?_⟩
    · rw [eC, e1, bind_s, e2, bind_s, e3, bind_s, e4, bind_s, e5, bind_s]
      unfold f_Text_size
      rw [X5.2.1, bind_s]
    · unfold f_R_append
      rw [nm_9, nm_9, g1, bind_s, g2, bind_s, g3, bind_s, g4, bind_s, g5, bind_s, X5.2.2.1, if_neg (ng_800 (by omega)), bind_s, right_1 h7, bind_s, if_neg n1_, snd_, X5.2.2.1]
    · rw [F.2.1 49 (by omega) (by omega), st3_K (by omega)]
    · rw [F.2.2 28 (by omega), st3_ua, ua_N (by omega)]
  · rw [if_neg (nle_800 (by omega) (by omega))] at eC
    obtain ⟨v1, g1, X1, F1⟩ := M_feed (x := x1) (L := L) hX0.2.2.1 (by omega) (by omega)
    obtain ⟨v2, g2, X2, F2⟩ := M_feed (x := x2) (L := L) X1 (by omega) (by omega)
    obtain ⟨v3, g3, X3, F3⟩ := M_feed (x := x3) (L := L) X2 (by omega) (by omega)
    obtain ⟨v4, g4, X4, F4⟩ := M_feed (x := x4) (L := L) X3 (by omega) (by omega)
    obtain ⟨v5, g5, X5, F5⟩ := M_feed (x := x5) (L := L) X4 (by omega) (by omega)
    have F := (((F1.tr F2).tr F3).tr F4).tr F5
    have h7 : v5 13 0 7 = 0 := (F.2.1 7 (by omega)).trans th0
    refine ⟨.inl xISE, 0, μ, st3 (st3 v5 13 0 7 1) 13 0 9 (nI L), eC, ?_, Or.inr ⟨(xISE, 1), List.mem_singleton.mpr rfl, rfl, by rw [st3_ua, ua_N (by omega), st3_ua, ua_S]⟩, (H.txt (m := μ) (v := st3 (st3 v5 13 0 7 1) 13 0 9 (nI L)) (L' := L) (fun _ _ _ => rfl) (fun K a b => by rw [st3_K a, st3_K a, F.1 K a b, st3_K a]) (fun f a b => by rw [st3_ua, ua_N b, st3_ua, ua_N a, F.2.1 f b, st3_ua, ua_N a]) ⟨hL, hX.2.1, by rw [st3_ua, ua_S], fun i hi => ?_⟩).gr, rfl, ?_, ?_⟩
    · unfold f_R_append
      rw [nm_9, nm_9, g1, bind_s, g2, bind_s, g3, bind_s, g4, bind_s, g5, bind_s, X5, if_pos (gg_800 (by omega) (by omega)), bind_s, right_0 h7 (by decide), bind_s, if_pos rfl, nm_9, snd_, hX0.2.2.1]
    · rw [st3_K (by omega), st3_K (by omega), F.2.2 i hi, st3_K (by omega)]
      exact hX.2.2.2 i hi
    · rw [st3_K (by omega), st3_K (by omega), F.1 49 (by omega) (by omega), st3_K (by omega)]
    · rw [st3_ua, ua_N (by omega), st3_ua, ua_N (by omega), F.2.1 28 (by omega), st3_ua, ua_N (by omega)]
theorem T_truncate (hG : GR μ ν) (x : Int32) : ChOK μ ν [(xIAE, 1)] (f_P_truncate x μ) (f_R_truncate x ν) := by
  have hG0 := hG
  obtain ⟨s, E, P, C, O, n, w, t, dd, h, π, L, H⟩ := hG
  have hX : TXT μ ν L := H.2.2.2.2.2.2.2.1
  have hL : L ≤ 800 := hX.1
  have n9 : (st3 ν 13 0 7 0) 13 0 9 = nI L := by rw [st3_ua, ua_N (by omega)]; exact hX.2.2.1
  rcases wi_01 x 0 (nI L) with e0 | e1
  · refine T_noIx hG0 ?_ ?_ (List.mem_singleton.mpr rfl)
    · unfold f_P_truncate f_Text_size
      rw [bind_s, hX.2.1, C_within, bind_s, if_pos e0]
    · unfold f_R_truncate
      rw [nm_9, n9, R_within, bind_s, e0, right_0 th0 (by decide), bind_s, if_pos rfl, snd_, th_th]
  · obtain ⟨d, -, hd, rfl⟩ := wi_1 (a := 0) (b := L) (by omega) (by omega) e1
    refine ⟨.inr (nI L - nI d), nI L - nI d, st3 μ 11 0 1 (nI d), st3 (st3 ν 13 0 7 0) 13 0 9 (nI d), ?_, ?_, Or.inl ⟨rfl, by rw [st3_ua, ua_N (by omega), st3_ua, ua_S]⟩, (H.txt (m := st3 μ 11 0 1 (nI d)) (v := st3 (st3 ν 13 0 7 0) 13 0 9 (nI d)) (L' := d) (fun K a b => st3_K a) (fun K a b => by rw [st3_K a, st3_K a]) (fun f a b => by rw [st3_ua, ua_N b, st3_ua, ua_N a]) ⟨by omega, by rw [st3_ua, ua_S], by rw [st3_ua, ua_S], fun i hi => ?_⟩).gr, by rw [st3_K (by omega)], ?_, ?_⟩
    · unfold f_P_truncate f_Text_size f_Text_shortenTo
      rw [bind_s, hX.2.1, C_within, bind_s, e1, if_neg (by decide), bind_s, nm_9, nm_9, bind_s]
    · unfold f_R_truncate
      rw [nm_9, n9, R_within, bind_s, e1, right_1 th0, bind_s, if_neg n1_, snd_, n9, nm_9, nm_9]
    · rw [st3_K (by omega), st3_K (by omega), st3_K (by omega)]
      exact hX.2.2.2 i (by omega)
    · rw [st3_K (by omega), st3_K (by omega)]
    · rw [st3_ua, ua_N (by omega), st3_ua, ua_N (by omega)]
end Text

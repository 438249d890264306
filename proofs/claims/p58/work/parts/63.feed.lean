/-! The text is laid into the class. -/
/-! The text: append, truncate. -/
theorem sh_and (b : BitVec 32) (k : Nat) (hk : k ≤ 24) : b.sshiftRight k &&& 255#32 = b >>> k &&& 255#32 := by
  apply BitVec.eq_of_getLsbD_eq
  intro i hi
  simp only [BitVec.getLsbD_and, BitVec.getLsbD_sshiftRight, BitVec.getLsbD_ushiftRight]
  by_cases h : i < 8
  · have h1 : ¬ 32 ≤ i := by omega
    have h2 : k + i < 32 := by omega
    simp [h1, h2]
  · have h3 : (255#32).getLsbD i = false := by
      show Nat.testBit 255 i = false
      apply Nat.testBit_lt_two_pow
      exact Nat.lt_of_lt_of_le (show 255 < 2 ^ 8 by omega) (Nat.pow_le_pow_right (by omega) (by omega))
    rw [h3]
    simp
/-- a byte of four -/
def bt (x : Int32) (k : Nat) : Nat := x.toBitVec.toNat / 2 ^ k % 256
theorem bt_lt (x : Int32) (k : Nat) : bt x k < 256 := Nat.mod_lt _ (by omega)
theorem bt_u (x : Int32) (k : Nat) (hk : k ≤ 24) : (x.toBitVec >>> k &&& 255#32) = BitVec.ofNat 32 (bt x k) := by
  apply BitVec.eq_of_toNat_eq
  rw [BitVec.toNat_and, BitVec.toNat_ushiftRight, BitVec.toNat_ofNat, BitVec.toNat_ofNat, show 255 % 2 ^ 32 = 2 ^ 8 - 1 from rfl, Nat.and_two_pow_sub_one_eq_mod, Nat.shiftRight_eq_div_pow, Nat.mod_eq_of_lt (Nat.lt_of_lt_of_le (bt_lt x k) (by decide))]
  rfl
theorem bt_C (x : Int32) {k : Nat} (hk : k = 24 ∨ k = 16 ∨ k = 8 ∨ k = 0) : (((x.toUInt32 >>> ((nI k).toUInt32 &&& Int32.toUInt32 31)).toInt32) &&& 255) = nI (bt x k) := by
  apply Int32.toBitVec_inj.mp
  have h := bt_u x k (by omega)
  rw [nI_bv, ← h]
  rcases hk with rfl | rfl | rfl | rfl <;> rfl
def shv (i : Nat) : Int32 := if i < 4 then nI (24 - 8 * i) else -8
theorem shv_n {i : Nat} (h : i < 4) : shv i = nI (24 - 8 * i) := if_pos h
theorem shv_s {i : Nat} (h : i < 4) : nI (24 - 8 * i) + (-8) = shv (i + 1) := by
  rcases (show i = 0 ∨ i = 1 ∨ i = 2 ∨ i = 3 by omega) with rfl | rfl | rfl | rfl <;> rfl
theorem shv_k {i : Nat} (h : i < 4) : 24 - 8 * i = 24 ∨ 24 - 8 * i = 16 ∨ 24 - 8 * i = 8 ∨ 24 - 8 * i = 0 := by omega
def bz (x : Int32) (i : Nat) : Bool := decide (¬ bt x (24 - 8 * i) = 0)
def ctb (x : Int32) : Nat := ct (bz x) 4
theorem ctb_le (x : Int32) : ctb x ≤ 4 := ct_le
section Bytes
variable {μ : Mem}
theorem C_bytesIn (x : Int32) : f_Text_bytesIn x μ = some (nI (ctb x)) := by
  unfold f_Text_bytesIn
  refine it_fr (f := fun s : Int32 × Int32 => s_Text_bytesIn_5 x s.1 s.2 μ) (s := (0, 24)) (fun i q => q = (nI (ct (bz x) i), shv i)) (fun q => q = nI (ctb x)) 4 0 (by omega) (by omega) rfl ?_ ?_ (fun r q1 q2 => by rw [q1, bind_s, q2])
  · rintro i hi _ rfl
    show ∃ s', s_Text_bytesIn_5 x (nI (ct (bz x) i)) (shv i) μ = some (.inl s') ∧ _
    unfold s_Text_bytesIn_5
    rw [shv_n hi, if_neg (nI_pos (by omega)), bt_C x (shv_k hi), shv_s hi, nI_1]
    have q : ct (bz x) (i + 1) = ct (bz x) i + (if bz x i = true then 1 else 0) := rfl
    by_cases c : bt x (24 - 8 * i) = 0
    · rw [c, if_pos (show nI 0 = 0 from rfl)]
      refine ⟨_, rfl, ?_⟩
      rw [q, if_neg (by unfold bz; rw [c]; decide)]
      rfl
    · rw [if_neg (ne_0 (by omega) (Nat.lt_trans (bt_lt x _) (by omega)))]
      refine ⟨_, rfl, ?_⟩
      rw [q, if_pos (by unfold bz; exact decide_eq_true c)]
  · rintro _ rfl
    show ∃ r, s_Text_bytesIn_5 x (nI (ct (bz x) 4)) (shv 4) μ = some (.inr r) ∧ _
    unfold s_Text_bytesIn_5
    rw [if_pos (by decide)]
    exact ⟨_, rfl, rfl⟩
end Bytes
theorem sh8 {c l : Nat} (hc : c < 2 ^ 23) (hl : l < 256) : (nI c <<< (8 &&& 31)) ||| nI l = nI (256 * c + l) := by
  apply Int32.toBitVec_inj.mp
  have e : ((nI c <<< (8 &&& 31)) ||| nI l).toBitVec = (BitVec.ofNat 32 c <<< 8) ||| BitVec.ofNat 32 l := rfl
  rw [e, nI_bv]
  apply BitVec.eq_of_toNat_eq
  rw [BitVec.toNat_or, BitVec.toNat_shiftLeft, BitVec.toNat_ofNat, BitVec.toNat_ofNat, BitVec.toNat_ofNat, Nat.mod_eq_of_lt (show c < 2 ^ 32 by omega), Nat.mod_eq_of_lt (show l < 2 ^ 32 by omega), Nat.mod_eq_of_lt (show 256 * c + l < 2 ^ 32 by omega)]
  have h1 : c <<< 8 = 256 * c := by rw [Nat.shiftLeft_eq]; omega
  rw [h1, Nat.mod_eq_of_lt (by omega)]
  have h2 := Nat.shiftLeft_add_eq_or_of_lt (i := 8) (b := l) (by omega) c
  rw [h1] at h2
  exact h2.symm
/-- the letters of a text are bytes -/
def okT (T : List Nat) : Prop := ∀ x ∈ T, 1 ≤ x ∧ x ≤ 127
theorem okT.at {T : List Nat} (h : okT T) {i : Nat} (hi : i < T.length) : 1 ≤ T.getD i 0 ∧ T.getD i 0 ≤ 127 := h _ (getD_mem hi)
theorem getD_out {T : List Nat} {i : Nat} (h : T.length ≤ i) : T.getD i 0 = 0 := by
  rw [List.getD_eq_getElem?_getD, List.getElem?_eq_none h]
  rfl
theorem okT.le {T : List Nat} (h : okT T) (i : Nat) : T.getD i 0 ≤ 127 := by
  by_cases hi : i < T.length
  · exact (h.at hi).2
  · rw [getD_out (by omega)]; omega
/-- j of four letters from k on -/
def pkj (T : List Nat) (k : Nat) : Nat → Nat
  | 0 => 0
  | j + 1 => 256 * pkj T k j + T.getD (k + j) 0
theorem pkj_lt {T : List Nat} (h : okT T) {k : Nat} : pkj T k 1 ≤ 127 ∧ pkj T k 2 < 2 ^ 15 ∧ pkj T k 3 < 2 ^ 23 ∧ pkj T k 4 < 2 ^ 31 := by
  have a0 := h.le (k + 0)
  have a1 := h.le (k + 1)
  have a2 := h.le (k + 2)
  have a3 := h.le (k + 3)
  have e1 : pkj T k 1 = T.getD (k + 0) 0 := by show 256 * 0 + T.getD (k + 0) 0 = _; omega
  have e2 : pkj T k 2 = 256 * pkj T k 1 + T.getD (k + 1) 0 := rfl
  have e3 : pkj T k 3 = 256 * pkj T k 2 + T.getD (k + 2) 0 := rfl
  have e4 : pkj T k 4 = 256 * pkj T k 3 + T.getD (k + 3) 0 := rfl
  omega
theorem bt_pk {T : List Nat} (h : okT T) {k i : Nat} (hi : i < 4) : bt (nI (pkj T k 4)) (24 - 8 * i) = T.getD (k + i) 0 := by
  obtain ⟨b1, b2, b3, b4⟩ := pkj_lt h (k := k)
  have a0 := h.le (k + 0)
  have a1 := h.le (k + 1)
  have a2 := h.le (k + 2)
  have a3 := h.le (k + 3)
  have e1 : pkj T k 1 = T.getD (k + 0) 0 := by show 256 * 0 + T.getD (k + 0) 0 = _; omega
  have e2 : pkj T k 2 = 256 * pkj T k 1 + T.getD (k + 1) 0 := rfl
  have e3 : pkj T k 3 = 256 * pkj T k 2 + T.getD (k + 2) 0 := rfl
  have e4 : pkj T k 4 = 256 * pkj T k 3 + T.getD (k + 3) 0 := rfl
  unfold bt
  rw [nI_bv, BitVec.toNat_ofNat, Nat.mod_eq_of_lt (show pkj T k 4 < 2 ^ 32 by omega)]
  rcases (show i = 0 ∨ i = 1 ∨ i = 2 ∨ i = 3 by omega) with rfl | rfl | rfl | rfl
  · show pkj T k 4 / 16777216 % 256 = _
    omega
  · show pkj T k 4 / 65536 % 256 = _
    omega
  · show pkj T k 4 / 256 % 256 = _
    omega
  · show pkj T k 4 / 1 % 256 = _
    omega
theorem ct_pk {T : List Nat} (h : okT T) {k : Nat} : ∀ i, i ≤ 4 → min k T.length + ct (bz (nI (pkj T k 4))) i = min (k + i) T.length
  | 0, _ => rfl
  | i + 1, hi => by
    have ih := ct_pk h (k := k) i (by omega)
    have e : ct (bz (nI (pkj T k 4))) (i + 1) = ct (bz (nI (pkj T k 4))) i + (if bz (nI (pkj T k 4)) i = true then 1 else 0) := rfl
    rw [e]
    have hb : bz (nI (pkj T k 4)) i = decide (¬ T.getD (k + i) 0 = 0) := by unfold bz; rw [bt_pk h (by omega)]
    rw [hb]
    by_cases c : k + i < T.length
    · have := (h.at c).1
      rw [if_pos (decide_eq_true (by omega))]
      omega
    · rw [getD_out (show T.length ≤ k + i by omega), if_neg (by decide)]
      omega
/-- n letters of T have been laid in -/
def TXs (μ : Mem) (T : List Nat) (n : Nat) : Prop := μ 11 0 1 = nI n ∧ ∀ i, i < n → μ 20 0 i = nI (T.getD i 0)
def FrT (μ m : Mem) : Prop := ∀ K, K ≠ 11 → K ≠ 20 → m K = μ K
theorem FrT.tr {μ m m' : Mem} (h : FrT μ m) (h' : FrT m m') : FrT μ m' := fun K a b => (h' K a b).trans (h K a b)
theorem TXs.tx {μ : Mem} {T : List Nat} (h : TXs μ T T.length) (hT : okT T) (hl : T.length ≤ 800) : TX μ μ (fun i => T.getD i 0) T.length := ⟨hl, h.1, rfl, fun i hi => ⟨(hT.at hi).1, by have := (hT.at hi).2; show T.getD i 0 ≤ 255; omega, h.2 i hi, rfl⟩⟩
theorem L_put4 {μ : Mem} {T : List Nat} {k : Nat} (hT : okT T) (hl : T.length ≤ 800) (h : TXs μ T (min k T.length)) : ∃ m, f_Text_putBytesOf (nI (pkj T k 4)) μ = some m ∧ TXs m T (min (k + 4) T.length) ∧ FrT μ m := by
  have key : ∃ m, it (fun (s : Int32 × Mem) => s_Text_putBytesOf_3 (nI (pkj T k 4)) s.1 s.2) LIM (24, μ) = some m ∧ (TXs m T (min (k + 4) T.length) ∧ FrT μ m) := by
    refine it_for (fun i (q : Int32 × Mem) => q.1 = shv i ∧ TXs q.2 T (min (k + i) T.length) ∧ FrT μ q.2) (fun m => TXs m T (min (k + 4) T.length) ∧ FrT μ m) 4 0 (by omega) (by omega) ⟨rfl, h, fun _ _ _ => rfl⟩ (fun i hi q hq => ?_) (fun q hq => ?_)
    · obtain ⟨q1, q2, q3⟩ := hq
      obtain ⟨x, u⟩ := q
      replace q1 : x = shv i := q1
      subst q1
      replace q2 : TXs u T (min (k + i) T.length) := q2
      replace q3 : FrT μ u := q3
      show ∃ s', s_Text_putBytesOf_3 (nI (pkj T k 4)) (shv i) u = some (.inl s') ∧ _
      unfold s_Text_putBytesOf_3
      rw [shv_n hi, if_neg (nI_pos (by omega)), bt_C _ (shv_k hi), shv_s hi, bt_pk hT hi, nm_9]
      by_cases c : k + i < T.length
      · obtain ⟨c1, c2⟩ := hT.at c
        have e : min (k + i) T.length = k + i := by omega
        rw [e] at q2
        rw [if_neg (ne_0 (by omega) (by omega))]
        unfold f_Text_put
        rw [q2.1, if_neg (show ¬ (800 : Int32) ≤ nI (k + i) from nI_ge (b := 800) (by omega) (by omega)), chk_of (inb_of (by omega) (by omega)), nI_clamp (by omega), nm_9, nm_9, bind_s, st3_K (show 11 ≠ 20 by omega), q2.1, nI_1]
        refine ⟨_, rfl, rfl, ?_, ?_⟩
        · show TXs (st3 (st3 u 20 0 (k + i) (nI (T.getD (k + i) 0))) 11 0 1 (nI (k + i + 1))) T (min (k + (i + 1)) T.length)
          rw [show min (k + (i + 1)) T.length = k + i + 1 by omega]
          refine ⟨by rw [st3_ua, ua_S], fun z hz => ?_⟩
          rw [st3_K (by omega), st3_ua]
          by_cases ez : z = k + i
          · rw [ez, ua_S]
          · rw [ua_N ez]
            exact q2.2 z (by omega)
        · show FrT μ (st3 (st3 u 20 0 (k + i) (nI (T.getD (k + i) 0))) 11 0 1 (nI (k + i + 1)))
          exact q3.tr (fun K a b => by rw [st3_K a, st3_K b])
      · rw [getD_out (show T.length ≤ k + i by omega), if_pos (show nI 0 = 0 from rfl)]
        refine ⟨_, rfl, rfl, ?_, q3⟩
        show TXs u T (min (k + (i + 1)) T.length)
        rw [show min (k + (i + 1)) T.length = min (k + i) T.length by omega]
        exact q2
    · obtain ⟨q1, q2, q3⟩ := hq
      obtain ⟨x, u⟩ := q
      replace q1 : x = shv 4 := q1
      subst q1
      refine ⟨u, ?_, q2, q3⟩
      show s_Text_putBytesOf_3 (nI (pkj T k 4)) (shv 4) u = _
      unfold s_Text_putBytesOf_3
      rw [if_pos (by decide)]
  obtain ⟨m, a, b⟩ := key
  exact ⟨m, by unfold f_Text_putBytesOf; rw [a, bind_s], b⟩
/-- twenty letters -/
theorem T_append {μ : Mem} {T : List Nat} {k : Nat} (hT : okT T) (hl : T.length ≤ 800) (h : TXs μ T (min k T.length)) : ∃ m, f_P_append (nI (pkj T k 4)) (nI (pkj T (k + 4) 4)) (nI (pkj T (k + 8) 4)) (nI (pkj T (k + 12) 4)) (nI (pkj T (k + 16) 4)) μ = some (nI (min (k + 20) T.length), m) ∧ TXs m T (min (k + 20) T.length) ∧ FrT μ m := by
  obtain ⟨m1, c1, d1, f1⟩ := L_put4 hT hl h
  obtain ⟨m2, c2, d2, f2⟩ := L_put4 (k := k + 4) hT hl d1
  obtain ⟨m3, c3, d3, f3⟩ := L_put4 (k := k + 8) hT hl d2
  obtain ⟨m4, c4, d4, f4⟩ := L_put4 (k := k + 12) hT hl d3
  obtain ⟨m5, c5, d5, f5⟩ := L_put4 (k := k + 16) hT hl d4
  refine ⟨m5, ?_, d5, (((f1.tr f2).tr f3).tr f4).tr f5⟩
  have g1 := ct_pk hT (k := k) 4 (by omega)
  have g2 := ct_pk hT (k := k + 4) 4 (by omega)
  have g3 := ct_pk hT (k := k + 8) 4 (by omega)
  have g4 := ct_pk hT (k := k + 12) 4 (by omega)
  have g5 := ct_pk hT (k := k + 16) 4 (by omega)
  have es : ∀ m, f_Text_size m = some (m 11 0 1) := fun m => rfl
  unfold f_P_append
  rw [C_bytesIn, bind_s, C_bytesIn, bind_s, C_bytesIn, bind_s, C_bytesIn, bind_s, C_bytesIn, bind_s, nI_add, nI_add, nI_add, nI_add, nm_9, es, bind_s, h.1, nI_add, if_pos (show nI _ ≤ (800 : Int32) from nI_le (b := 800) (by unfold ctb; omega) (by omega)), c1, bind_s, c2, bind_s, c3, bind_s, c4, bind_s, c5, bind_s, es, bind_s, d5.1]

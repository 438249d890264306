/-! The JDK's StringBuilder: append of a sign and of a number, toString (Latin-1, few letters). -/
theorem nI_sub9 {a b : Nat} (h : b ≤ a) : nI a - nI b = nI (a - b) := by
  have e : nI a = nI (a - b) + nI b := by rw [nI_add, Nat.sub_add_cancel h]
  rw [e, Int32.add_sub_cancel]
def okB (x : RV) : Prop := ∃ y, x = .inl (.int y) ∧ fits .byte (.int y) = true
def zb : Nat → RV := fun _ => .inl (defaultValue .byte)
theorem okB_zb {i : Nat} : okB (zb i) := ⟨0, rfl, by decide +kernel⟩
theorem okv_arr {g : GL} {t : FieldType} {r : Nat × Nat} : okv g (.array t) (.inr r) := by
  unfold okv
  rw [conc_ref]
  exact ⟨rfl, rfl⟩
theorem by9 {k : Nat} (h : k < 128) : (nI k).toInt8.toInt32 = nI k ∧ narrow .byte (.int (nI k)) = .int (nI k) ∧ fits .byte (.int (nI k)) = true := by
  have h9 : ∀ k, k < 128 → (Int32.ofNat k).toInt8.toInt32 = Int32.ofNat k ∧ narrow .byte (.int (Int32.ofNat k)) = .int (Int32.ofNat k) ∧ fits .byte (.int (Int32.ofNat k)) = true := by decide +kernel
  exact h9 k h
theorem wrG_S {G : RG} {o : Nat} {c : RC} : wrG G o c o = some c := if_pos rfl
theorem wrG_N {G : RG} {o q : Nat} {c : RC} (h : q ≠ o) : wrG G o c q = G q := if_neg h
/-- a builder at o, its bytes at a -/
def SB (B : Nat) (G : RG) (nx o a cap len : Nat) (tx : Nat → Int32) : Prop :=
  (∃ n f, G o = some (false, 1, n, f) ∧ f 0 = .inr (0, a) ∧ f 1 = .inl (.int 0) ∧ f 3 = .inl (.int (nI len))) ∧ (∃ bf, G a = some (true, 2, cap, bf) ∧ (∀ i, i < len → bf i = .inl (.int (tx i))) ∧ ∀ i, i < cap → okB (bf i)) ∧ o ≠ a ∧ o < nx ∧ a < nx ∧ len ≤ cap ∧ (cap ≤ 2 * B ∧ B ≤ 1000)
def SBF (nx o a : Nat) (G G' : RG) (nx' : Nat) : Prop := (nx ≤ nx' ∧ nx' ≤ nx + 1) ∧ ∀ q, q < nx → q ≠ o → q ≠ a → G' q = G q
def pSB (B : Nat) (v : RO) (G : RG) (nx o a len : Nat) (tx : Nat → Int32) : RO → RM → Prop := fun r M' => r = v ∧ ∃ a' cap', SB B M'.1 M'.2 o a' cap' len tx ∧ (a' = a ∨ nx ≤ a') ∧ SBF nx o a G M'.1 M'.2
section Builder
variable {g : GL} {G : RG} {B nx o a cap len : Nat} {tx : Nat → Int32}
theorem M_copyOf (d : Nat) {q : Nat} {bf : Nat → RV} (ha : G a = some (true, 2, cap, bf)) (hf : ∀ i, i < cap → okB (bf i)) (hq : cap < q) (hq2 : q ≤ 65536) (han : a < nx) : Mt g d m_Arrays_copyOf_9075b [.inr (0, a), .inl (.int (nI q))] (G, nx) 1 q (pRO (.inr (some (.inr (0, nx)))) (wrG (wrG G nx (true, 2, q, zb)) nx (true, 2, q, va_cpy bf zb 0 0 cap), nx + 1)) := by
  refine Mt.of9 [some (.inr (0, a)), some (.inl (.int (nI q))), none] (by decide +kernel) rfl rfl rfl rfl ?_
  refine ev_iload_n (k0 := 1) rfl d_Arrays_copyOf_9075b_0 ?_
  refine ev_aload_n (k0 := 0) rfl d_Arrays_copyOf_9075b_1 ?_
  refine ev_alen (show rdM g (G, nx) (0, a) = _ from ha) d_Arrays_copyOf_9075b_2 ?_
  refine ev_icmp_ne (tgt := 14) (by decide) d_Arrays_copyOf_9075b_3 (fun _ => ?_) (fun c => by have := (nI_eq (by omega) (by omega)).mp (show nI q = nI cap from c); omega)
  refine ev_iload_n (k0 := 1) rfl d_Arrays_copyOf_9075b_14 ?_
  refine Ev.room (mc := 0 + 1) (ms := 0 + q) (ev_newa (M := (G, nx)) (ei := 2) (n := q) (at0 := .byte) (ty := .byte) rfl rfl (by decide) ac_byte (nI_pos (by omega)) (nI_clamp (by omega)) (by show q * 1 ≤ _; omega) d_Arrays_copyOf_9075b_15 ?_) (by omega) (by omega)
  refine cw_astoreN_n 2 [some (.inr (0, a)), some (.inl (.int (nI q))), some (.inr (0, nx))] d_Arrays_copyOf_9075b_17 rfl rfl rfl ?_
  refine ev_aload_n (k0 := 0) rfl d_Arrays_copyOf_9075b_18 ?_
  refine cw_iconst 0 d_Arrays_copyOf_9075b_19 rfl ?_
  refine ev_aload_n (k0 := 2) rfl d_Arrays_copyOf_9075b_20 ?_
  refine cw_iconst 0 d_Arrays_copyOf_9075b_21 rfl ?_
  refine ev_aload_n (k0 := 0) rfl d_Arrays_copyOf_9075b_22 ?_
  have ha' : wrG G nx (true, 2, q, zb) a = some (true, 2, cap, bf) := by rw [wrG_N (by omega)]; exact ha
  refine ev_alen (show rdM g (wrG G nx (true, 2, q, zb), nx + 1) (0, a) = _ from ha') d_Arrays_copyOf_9075b_23 ?_
  refine ev_iload_n (k0 := 1) rfl d_Arrays_copyOf_9075b_24 ?_
  refine ev_mmin (Nat.le_of_ble_eq_true rfl) lj_Arrays_304 d_Arrays_copyOf_9075b_25 ?_
  rw [if_neg (show ¬ nI q < Int32.ofNat cap from nI_nlt (by omega) (by omega))]
  have hc0 : (0 : Int32).toNatClampNeg = 0 := by decide
  have hcc : (Int32.ofNat cap).toNatClampNeg = cap := nI_clamp (by omega)
  refine ev_copy (Nat.le_of_ble_eq_true rfl) (ei := 2) rfl rfl lj_Arrays_150 ha' wrG_S (by decide) (by decide) (nI_pos (n := cap) (by omega)) (by rw [hc0, hcc]; omega) (by rw [hc0, hcc]; omega) (fun i hi => by
    rw [hcc] at hi
    rw [hc0, Nat.zero_add]
    obtain ⟨y, e1, e2⟩ := hf i hi
    exact ⟨y, e1, e2⟩) d_Arrays_copyOf_9075b_28 ?_
  rw [hc0, hcc]
  refine ev_aload_n (k0 := 2) rfl d_Arrays_copyOf_9075b_31 ?_
  exact ev_areturn (st := []) rfl (Or.inr ⟨_, rfl⟩) d_Arrays_copyOf_9075b_32 ⟨rfl, rfl⟩
theorem M_newLength (d : Nat) {M : RM} {x y z : Nat} (hx : x ≤ 65536) (hy : y ≤ 65536) (hz : z ≤ 65536) (hp : 1 ≤ z) : Mt g d m_ArraysSupport_newLength_cabcc [.inl (.int (nI x)), .inl (.int (nI y)), .inl (.int (nI z))] M 0 0 (pRO (rI (nI (x + max y z))) M) := by
  refine Mt.of9 [some (.inl (.int (nI x))), some (.inl (.int (nI y))), some (.inl (.int (nI z))), none] (by decide +kernel) rfl rfl rfl rfl ?_
  refine ev_iload_n (k0 := 0) rfl d_ArraysSupport_newLength_cabcc_0 ?_
  refine ev_iload_n (k0 := 1) rfl d_ArraysSupport_newLength_cabcc_1 ?_
  refine ev_iload_n (k0 := 2) rfl d_ArraysSupport_newLength_cabcc_2 ?_
  refine ev_mmax (Nat.le_of_ble_eq_true rfl) lj_ArraysSupport_194 d_ArraysSupport_newLength_cabcc_3 ?_
  have e : (if nI y < nI z then nI z else nI y) = nI (max y z) := by
    by_cases h : y < z
    · rw [if_pos (nI_lt h (by omega)), Nat.max_eq_right (by omega)]
    · rw [if_neg (nI_nlt (by omega) (by omega)), Nat.max_eq_left (by omega)]
  have hm : max y z ≤ 65536 := by omega
  rw [e]
  refine ev_iadd d_ArraysSupport_newLength_cabcc_6 ?_
  refine cw_istoreN_n 3 (nI (x + max y z)) (nI_add _ _).symm [some (.inl (.int (nI x))), some (.inl (.int (nI y))), some (.inl (.int (nI z))), some (.inl (.int (nI (x + max y z))))] d_ArraysSupport_newLength_cabcc_7 rfl rfl rfl ?_
  refine cw_iconst 0 d_ArraysSupport_newLength_cabcc_8 rfl ?_
  refine ev_iload_n (k0 := 3) rfl d_ArraysSupport_newLength_cabcc_9 ?_
  refine ev_icmp_ge (tgt := 21) (by decide) d_ArraysSupport_newLength_cabcc_10 (fun c => absurd (show nI (x + max y z) ≤ nI 0 from c) (nI_ge (by omega) (by omega))) (fun _ => ?_)
  refine ev_iload_n (k0 := 3) rfl d_ArraysSupport_newLength_cabcc_13 ?_
  refine ev_ldc (v := 2147483639) kj_1 d_ArraysSupport_newLength_cabcc_14 ?_
  refine ev_icmp_gt (tgt := 21) (by decide) d_ArraysSupport_newLength_cabcc_16 (fun c => absurd (show nI 2147483639 < nI (x + max y z) from c) (nI_nlt (by omega) (by omega))) (fun _ => ?_)
  refine ev_iload_n (k0 := 3) rfl d_ArraysSupport_newLength_cabcc_19 ?_
  exact ev_ireturn (st := []) rfl rfl d_ArraysSupport_newLength_cabcc_20 ⟨rfl, rfl⟩
theorem M_newCapacity (d : Nat) {n q : Nat} {f bf : Nat → RV} (ho : G o = some (false, 1, n, f)) (h0 : f 0 = .inr (0, a)) (h1 : f 1 = .inl (.int 0)) (ha : G a = some (true, 2, cap, bf)) (hc : cap ≤ 4000) (hq : cap < q) (hq2 : q ≤ 1000) : Mt g (d + 1) m_AbstractStringBuilder_newCapacity_0f7a4 [.inr (0, o), .inl (.int (nI q))] (G, nx) 0 0 (pRO (rI (nI (cap + max (q - cap) (cap + 2)))) (G, nx)) := by
  have ho' : rdM g (G, nx) (0, o) = some (false, 1, n, f) := ho
  have ha' : rdM g (G, nx) (0, a) = some (true, 2, cap, bf) := ha
  refine Mt.of9 [some (.inr (0, o)), some (.inl (.int (nI q))), none, none, none, none] (by decide +kernel) rfl rfl rfl rfl ?_
  refine ev_aload_n (k0 := 0) rfl d_AbstractStringBuilder_newCapacity_0f7a4_0 ?_
  refine ev_getg gj_AbstractStringBuilder_15_1 ho' d_AbstractStringBuilder_newCapacity_0f7a4_1 ?_
  rw [h0]
  refine ev_alen ha' d_AbstractStringBuilder_newCapacity_0f7a4_4 ?_
  refine cw_istoreN_n 2 (nI cap) rfl [some (.inr (0, o)), some (.inl (.int (nI q))), some (.inl (.int (nI cap))), none, none, none] d_AbstractStringBuilder_newCapacity_0f7a4_5 rfl rfl rfl ?_
  refine ev_iload_n (k0 := 1) rfl d_AbstractStringBuilder_newCapacity_0f7a4_6 ?_
  refine ev_aload_n (k0 := 0) rfl d_AbstractStringBuilder_newCapacity_0f7a4_7 ?_
  refine ev_getg gj_AbstractStringBuilder_22_1 ho' d_AbstractStringBuilder_newCapacity_0f7a4_8 ?_
  rw [h1]
  refine ev_ishl d_AbstractStringBuilder_newCapacity_0f7a4_11 ?_
  refine cw_istoreN_n 3 (nI q) (sb_shl0 _).symm [some (.inr (0, o)), some (.inl (.int (nI q))), some (.inl (.int (nI cap))), some (.inl (.int (nI q))), none, none] d_AbstractStringBuilder_newCapacity_0f7a4_12 rfl rfl rfl ?_
  refine ev_iload_n (k0 := 3) rfl d_AbstractStringBuilder_newCapacity_0f7a4_13 ?_
  refine ev_iload_n (k0 := 2) rfl d_AbstractStringBuilder_newCapacity_0f7a4_14 ?_
  refine ev_isub d_AbstractStringBuilder_newCapacity_0f7a4_15 ?_
  refine cw_istoreN 4 (nI (q - cap)) (nI_sub9 (by omega)).symm [some (.inr (0, o)), some (.inl (.int (nI q))), some (.inl (.int (nI cap))), some (.inl (.int (nI q))), some (.inl (.int (nI (q - cap)))), none] d_AbstractStringBuilder_newCapacity_0f7a4_16 rfl rfl rfl ?_
  refine ev_iload_n (k0 := 2) rfl d_AbstractStringBuilder_newCapacity_0f7a4_18 ?_
  refine ev_iload (i := 4) rfl d_AbstractStringBuilder_newCapacity_0f7a4_19 ?_
  refine ev_iload_n (k0 := 2) rfl d_AbstractStringBuilder_newCapacity_0f7a4_21 ?_
  refine cw_iconst 2 d_AbstractStringBuilder_newCapacity_0f7a4_22 rfl ?_
  refine ev_aload_n (k0 := 0) rfl d_AbstractStringBuilder_newCapacity_0f7a4_23 ?_
  refine ev_getg gj_AbstractStringBuilder_22_1 ho' d_AbstractStringBuilder_newCapacity_0f7a4_24 ?_
  rw [h1]
  refine ev_ishl d_AbstractStringBuilder_newCapacity_0f7a4_27 ?_
  refine ev_iadd d_AbstractStringBuilder_newCapacity_0f7a4_28 ?_
  rw [sb_shl0, show nI cap + (2 : Int32) = nI (cap + 2) from nI_add cap 2]
  refine Ev.z9 (ev_invS (vs := [.inl (.int (nI cap)), .inl (.int (nI (q - cap))), .inl (.int (nI (cap + 2)))]) lj_AbstractStringBuilder_114.1 lj_AbstractStringBuilder_114.2 (M_newLength d (by omega) (by omega) (by omega) (by omega)) rfl (Nat.le_of_ble_eq_true rfl) d_AbstractStringBuilder_newCapacity_0f7a4_29 (aft_ro ?_))
  refine cw_istoreN 5 (nI (cap + max (q - cap) (cap + 2))) rfl [some (.inr (0, o)), some (.inl (.int (nI q))), some (.inl (.int (nI cap))), some (.inl (.int (nI q))), some (.inl (.int (nI (q - cap)))), some (.inl (.int (nI (cap + max (q - cap) (cap + 2)))))] d_AbstractStringBuilder_newCapacity_0f7a4_32 rfl rfl rfl ?_
  refine ev_iload (i := 5) rfl d_AbstractStringBuilder_newCapacity_0f7a4_34 ?_
  refine ev_ldc (v := 2147483647) kj_2 d_AbstractStringBuilder_newCapacity_0f7a4_36 ?_
  refine ev_icmp_ne (tgt := 51) (by decide) d_AbstractStringBuilder_newCapacity_0f7a4_38 (fun _ => ?_) (fun c => by have := (nI_eq (by omega) (by omega)).mp (show nI (cap + max (q - cap) (cap + 2)) = nI 2147483647 from c); omega)
  refine ev_iload (i := 5) rfl d_AbstractStringBuilder_newCapacity_0f7a4_51 ?_
  refine ev_aload_n (k0 := 0) rfl d_AbstractStringBuilder_newCapacity_0f7a4_53 ?_
  refine ev_getg gj_AbstractStringBuilder_22_1 ho' d_AbstractStringBuilder_newCapacity_0f7a4_54 ?_
  rw [h1]
  refine ev_ishr d_AbstractStringBuilder_newCapacity_0f7a4_57 ?_
  rw [sb_shr0]
  exact ev_ireturn (st := []) rfl rfl d_AbstractStringBuilder_newCapacity_0f7a4_58 ⟨rfl, rfl⟩
theorem M_ensure (d : Nat) {q : Nat} (h : SB B G nx o a cap len tx) (hq : q ≤ B) : Mt g (d + 2) m_AbstractStringBuilder_ensureCapacityInternal_d00df [.inr (0, o), .inl (.int (nI q))] (G, nx) 1 (2 * B) (fun r M' => r = rV ∧ ∃ a' cap', SB B M'.1 M'.2 o a' cap' len tx ∧ q ≤ cap' ∧ (a' = a ∨ nx ≤ a') ∧ SBF nx o a G M'.1 M'.2) := by
  have h9 := h
  obtain ⟨⟨n, f, ho, h0, h1, h3⟩, ⟨bf, ha, hb1, hb2⟩, hoa, hon, han, hlc, hcap⟩ := h
  have ho' : rdM g (G, nx) (0, o) = some (false, 1, n, f) := ho
  have ha' : rdM g (G, nx) (0, a) = some (true, 2, cap, bf) := ha
  refine Mt.of9 [some (.inr (0, o)), some (.inl (.int (nI q))), none] (by decide +kernel) rfl rfl rfl rfl ?_
  refine ev_aload_n (k0 := 0) rfl d_AbstractStringBuilder_ensureCapacityInternal_d00df_0 ?_
  refine ev_getg gj_AbstractStringBuilder_15_1 ho' d_AbstractStringBuilder_ensureCapacityInternal_d00df_1 ?_
  rw [h0]
  refine ev_alen ha' d_AbstractStringBuilder_ensureCapacityInternal_d00df_4 ?_
  refine ev_aload_n (k0 := 0) rfl d_AbstractStringBuilder_ensureCapacityInternal_d00df_5 ?_
  refine ev_getg gj_AbstractStringBuilder_22_1 ho' d_AbstractStringBuilder_ensureCapacityInternal_d00df_6 ?_
  rw [h1]
  refine ev_ishr d_AbstractStringBuilder_ensureCapacityInternal_d00df_9 ?_
  refine cw_istoreN_n 2 (nI cap) (sb_shr0 _).symm [some (.inr (0, o)), some (.inl (.int (nI q))), some (.inl (.int (nI cap)))] d_AbstractStringBuilder_ensureCapacityInternal_d00df_10 rfl rfl rfl ?_
  refine ev_iload_n (k0 := 1) rfl d_AbstractStringBuilder_ensureCapacityInternal_d00df_11 ?_
  refine ev_iload_n (k0 := 2) rfl d_AbstractStringBuilder_ensureCapacityInternal_d00df_12 ?_
  refine ev_isub d_AbstractStringBuilder_ensureCapacityInternal_d00df_13 ?_
  have e1 : (nI q - nI cap).toInt = (q : Int) - cap := pk_sub_toInt (by omega) (by omega)
  refine ev_if_le (tgt := 38) (by decide) d_AbstractStringBuilder_ensureCapacityInternal_d00df_14 (fun c => ?_) (fun c => ?_)
  · rw [Int32.le_iff_toInt_le, e1, Int32.toInt_zero] at c
    exact ev_return (st := []) rfl d_AbstractStringBuilder_ensureCapacityInternal_d00df_38 ⟨rfl, a, cap, h9, by omega, Or.inl rfl, ⟨Nat.le_refl _, by omega⟩, fun _ _ _ _ => rfl⟩
  · rw [Int32.le_iff_toInt_le, e1, Int32.toInt_zero] at c
    have hlt : cap < q := by omega
    have hm : cap + max (q - cap) (cap + 2) ≤ 2 * B := by omega
    refine ev_aload_n (k0 := 0) rfl d_AbstractStringBuilder_ensureCapacityInternal_d00df_17 ?_
    refine ev_aload_n (k0 := 0) rfl d_AbstractStringBuilder_ensureCapacityInternal_d00df_18 ?_
    refine ev_getg gj_AbstractStringBuilder_15_1 ho' d_AbstractStringBuilder_ensureCapacityInternal_d00df_19 ?_
    rw [h0]
    refine ev_aload_n (k0 := 0) rfl d_AbstractStringBuilder_ensureCapacityInternal_d00df_22 ?_
    refine ev_iload_n (k0 := 1) rfl d_AbstractStringBuilder_ensureCapacityInternal_d00df_23 ?_
    refine Ev.z9 (ev_invU (vs := [.inl (.int (nI q))]) ho' lj_AbstractStringBuilder_104_1 (M_newCapacity d ho h0 h1 ha (by omega) hlt (by omega)) rfl (Nat.le_of_ble_eq_true rfl) d_AbstractStringBuilder_ensureCapacityInternal_d00df_24 (aft_ro ?_))
    refine ev_aload_n (k0 := 0) rfl d_AbstractStringBuilder_ensureCapacityInternal_d00df_27 ?_
    refine ev_getg gj_AbstractStringBuilder_22_1 ho' d_AbstractStringBuilder_ensureCapacityInternal_d00df_28 ?_
    rw [h1]
    refine ev_ishl d_AbstractStringBuilder_ensureCapacityInternal_d00df_31 ?_
    rw [sb_shl0]
    generalize hq9 : cap + max (q - cap) (cap + 2) = q9 at hm
    have hq8 : cap < q9 := by omega
    have hq7 : q ≤ q9 := by omega
    refine Ev.room (mc := 1 + 0) (ms := q9 + 0) (ev_invS (vs := [.inr (0, a), .inl (.int (nI q9))]) lj_AbstractStringBuilder_108.1 lj_AbstractStringBuilder_108.2 (M_copyOf (d + 1) ha hb2 hq8 (by omega) han) rfl (Nat.le_of_ble_eq_true rfl) d_AbstractStringBuilder_ensureCapacityInternal_d00df_32 (aft_ro ?_)) (by omega) (by omega)
    have ho2 : (wrG (wrG G nx (true, 2, q9, zb)) nx (true, 2, q9, va_cpy bf zb 0 0 cap)) o = some (false, 1, n, f) := by rw [wrG_N (by omega), wrG_N (by omega)]; exact ho
    refine ev_putf (M := (G, nx)) fj_AbstractStringBuilder_15_1 ho2 (show okv g (.array .byte) _ from okv_arr) d_AbstractStringBuilder_ensureCapacityInternal_d00df_35 ?_
    refine ev_return (st := []) rfl d_AbstractStringBuilder_ensureCapacityInternal_d00df_38 ⟨rfl, nx, q9, ⟨⟨n, _, wrG_S, rfl, h1, h3⟩, ⟨_, (wrG_N (by omega)).trans wrG_S, fun i hi => ?_, fun i hi => ?_⟩, by omega, by show o < nx + 1; omega, by show nx < nx + 1; omega, by omega, ⟨hm, by omega⟩⟩, hq7, Or.inr (Nat.le_refl _), ⟨by show nx ≤ nx + 1; omega, Nat.le_refl _⟩, fun z z1 z2 z3 => ?_⟩
    · unfold va_cpy
      rw [if_pos ⟨Nat.zero_le _, by omega⟩, Nat.sub_zero, Nat.zero_add]
      exact hb1 i hi
    · unfold va_cpy
      by_cases hic : i < cap
      · rw [if_pos ⟨Nat.zero_le _, by omega⟩, Nat.sub_zero, Nat.zero_add]
        exact hb2 i hic
      · rw [if_neg (by omega)]
        exact okB_zb
    · show wrG _ o _ z = G z
      rw [wrG_N z2, wrG_N (by omega), wrG_N (by omega)]
theorem M_isLatin1B (d : Nat) {M : RM} {r : Nat × Nat} {n : Nat} {f : Nat → RV} (hr : rdM g M r = some (false, 1, n, f)) (h1 : f 1 = .inl (.int 0)) : Mt g d m_AbstractStringBuilder_isLatin1_aae02 [.inr r] M 0 0 (pRO (rI 1) M) := by
  refine Mt.of9 [some (.inr r)] (by decide +kernel) rfl rfl rfl rfl ?_
  refine ev_gets sa_cs sj_AbstractStringBuilder_18 (Or.inl rfl) d_AbstractStringBuilder_isLatin1_aae02_0 ?_
  refine ev_if_eq (tgt := 17) (by decide) d_AbstractStringBuilder_isLatin1_aae02_3 (fun c => absurd c (by decide)) (fun _ => ?_)
  refine ev_aload_n (k0 := 0) rfl d_AbstractStringBuilder_isLatin1_aae02_6 ?_
  refine ev_getg gj_AbstractStringBuilder_22_1 hr d_AbstractStringBuilder_isLatin1_aae02_7 ?_
  rw [h1]
  refine ev_if_ne (tgt := 17) (by decide) d_AbstractStringBuilder_isLatin1_aae02_10 (fun c => absurd rfl c) (fun _ => ?_)
  refine cw_iconst 1 d_AbstractStringBuilder_isLatin1_aae02_13 rfl ?_
  refine ev_goto (tgt := 18) (by decide) d_AbstractStringBuilder_isLatin1_aae02_14 ?_
  exact ev_ireturn (st := []) rfl rfl d_AbstractStringBuilder_isLatin1_aae02_18 ⟨rfl, rfl⟩
theorem M_canEncode (d : Nat) {M : RM} {c : Nat} (hc : c < 128) : Mt g d m_StringLatin1_canEncode_fc78d [.inl (.int (nI c))] M 0 0 (pRO (rI 1) M) := by
  refine Mt.of9 [some (.inl (.int (nI c)))] (by decide +kernel) rfl rfl rfl rfl ?_
  refine ev_iload_n (k0 := 0) rfl d_StringLatin1_canEncode_fc78d_0 ?_
  refine cw_sipush 255 d_StringLatin1_canEncode_fc78d_1 rfl ?_
  refine ev_icmp_gt (tgt := 11) (by decide) d_StringLatin1_canEncode_fc78d_4 (fun z => absurd (show nI 255 < nI c from z) (nI_nlt (by omega) (by omega))) (fun _ => ?_)
  refine cw_iconst 1 d_StringLatin1_canEncode_fc78d_7 rfl ?_
  refine ev_goto (tgt := 12) (by decide) d_StringLatin1_canEncode_fc78d_8 ?_
  exact ev_ireturn (st := []) rfl rfl d_StringLatin1_canEncode_fc78d_12 ⟨rfl, rfl⟩
theorem M_appendC0 (d : Nat) {c : Nat} (h : SB B G nx o a cap len tx) (hl : len + 1 ≤ B) (hc : c < 128) : Mt g (d + 3) m_AbstractStringBuilder_append_3fe6f [.inr (0, o), .inl (.int (nI c))] (G, nx) 1 (2 * B) (pSB B (.inr (some (.inr (0, o)))) G nx o a (len + 1) (fun i => if i = len then nI c else tx i)) := by
  have h9 := h
  obtain ⟨⟨n, f, ho, h0, h1, h3⟩, -⟩ := h
  have ho' : rdM g (G, nx) (0, o) = some (false, 1, n, f) := ho
  refine Mt.of9 [some (.inr (0, o)), some (.inl (.int (nI c)))] (by decide +kernel) rfl rfl rfl rfl ?_
  refine ev_aload_n (k0 := 0) rfl d_AbstractStringBuilder_append_3fe6f_0 ?_
  refine ev_aload_n (k0 := 0) rfl d_AbstractStringBuilder_append_3fe6f_1 ?_
  refine ev_getg gj_AbstractStringBuilder_79_1 ho' d_AbstractStringBuilder_append_3fe6f_2 ?_
  rw [h3]
  refine cw_iconst 1 d_AbstractStringBuilder_append_3fe6f_5 rfl ?_
  refine ev_iadd d_AbstractStringBuilder_append_3fe6f_6 ?_
  rw [nI_1]
  refine Ev.room (mc := 1 + 0) (ms := 2 * B + 0) (ev_invU (vs := [.inl (.int (nI (len + 1)))]) ho' lj_AbstractStringBuilder_100_1 (M_ensure d h9 hl) rfl (Nat.le_of_ble_eq_true rfl) d_AbstractStringBuilder_append_3fe6f_7 ⟨fun v M' hP => ?_, fun E M' hP => ?_⟩) (by omega) (by omega)
  · obtain ⟨hv, a', cap', hS, hqc, haa, hF⟩ := hP
    cases hv
    obtain ⟨G', nx'⟩ := M'
    obtain ⟨⟨n', f', go, g0, g1, g3⟩, ⟨bf, ga, gb1, gb2⟩, goa, gon, gan, glc, gcap⟩ := hS
    have go' : rdM g (G', nx') (0, o) = some (false, 1, n', f') := go
    show Ev g (d + 2 + 1) _ 10 _ [] _ 0 0 _
    refine ev_aload_n (k0 := 0) rfl d_AbstractStringBuilder_append_3fe6f_10 ?_
    refine Ev.z9 (ev_invU (vs := []) go' lj_AbstractStringBuilder_83_1 (M_isLatin1B (d + 2) go' g1) rfl (Nat.le_of_ble_eq_true rfl) d_AbstractStringBuilder_append_3fe6f_11 (aft_ro ?_))
    refine ev_if_eq (tgt := 45) (by decide) d_AbstractStringBuilder_append_3fe6f_14 (fun z => absurd z (by decide)) (fun _ => ?_)
    refine ev_iload_n (k0 := 1) rfl d_AbstractStringBuilder_append_3fe6f_17 ?_
    refine Ev.z9 (ev_invS (vs := [.inl (.int (nI c))]) lj_AbstractStringBuilder_191.1 lj_AbstractStringBuilder_191.2 (M_canEncode (d + 2) hc) rfl (Nat.le_of_ble_eq_true rfl) d_AbstractStringBuilder_append_3fe6f_18 (aft_ro ?_))
    refine ev_if_eq (tgt := 45) (by decide) d_AbstractStringBuilder_append_3fe6f_21 (fun z => absurd z (by decide)) (fun _ => ?_)
    refine ev_aload_n (k0 := 0) rfl d_AbstractStringBuilder_append_3fe6f_24 ?_
    refine ev_getg gj_AbstractStringBuilder_15_1 go' d_AbstractStringBuilder_append_3fe6f_25 ?_
    rw [g0]
    refine ev_aload_n (k0 := 0) rfl d_AbstractStringBuilder_append_3fe6f_28 ?_
    refine ev_dup rfl d_AbstractStringBuilder_append_3fe6f_29 ?_
    refine ev_getg gj_AbstractStringBuilder_79_1 go' d_AbstractStringBuilder_append_3fe6f_30 ?_
    rw [g3]
    refine ev_dup_x1 rfl rfl d_AbstractStringBuilder_append_3fe6f_33 ?_
    refine cw_iconst 1 d_AbstractStringBuilder_append_3fe6f_34 rfl ?_
    refine ev_iadd d_AbstractStringBuilder_append_3fe6f_35 ?_
    rw [nI_1]
    refine ev_putf (M := (G, nx)) fj_AbstractStringBuilder_79_1 go (show okv g .int _ from okv_int) d_AbstractStringBuilder_append_3fe6f_36 ?_
    refine ev_iload_n (k0 := 1) rfl d_AbstractStringBuilder_append_3fe6f_39 ?_
    refine ev_i2b d_AbstractStringBuilder_append_3fe6f_40 ?_
    rw [(by9 hc).1]
    have ga2 : (wrG G' o (false, 1, n', updF f' 3 (.inl (.int (nI (len + 1)))))) a' = some (true, 2, cap', bf) := by rw [wrG_N (by omega)]; exact ga
    have hin : vp_in (nI len) cap' := vp_in_nI (by omega) (by omega)
    refine ev_bast (M := (G, nx)) ga2 hin d_AbstractStringBuilder_append_3fe6f_41 ?_
    rw [(by9 hc).2.1, nI_clamp (by omega)]
    refine ev_goto (tgt := 75) (by decide) d_AbstractStringBuilder_append_3fe6f_42 ?_
    refine ev_aload_n (k0 := 0) rfl d_AbstractStringBuilder_append_3fe6f_75 ?_
    refine ev_areturn (st := []) rfl (Or.inl ⟨_, rfl⟩) d_AbstractStringBuilder_append_3fe6f_76 ⟨rfl, a', cap', ⟨⟨n', updF f' 3 (.inl (.int (nI (len + 1)))), by show wrG _ a' _ o = _; rw [wrG_N goa]; exact wrG_S, g0, g1, rfl⟩, ⟨_, wrG_S, fun i hi => ?_, fun i hi => ?_⟩, goa, gon, gan, hqc, gcap⟩, haa, hF.1, fun q q1 q2 q3 => ?_⟩
    · show updF bf len _ i = .inl (.int (if i = len then nI c else tx i))
      unfold updF
      by_cases e : i = len
      · rw [if_pos e, if_pos e]
      · rw [if_neg e, if_neg e]
        exact gb1 i (by omega)
    · unfold updF
      by_cases e : i = len
      · rw [if_pos e]
        exact ⟨_, rfl, (by9 hc).2.2⟩
      · rw [if_neg e]
        exact gb2 i hi
    · show wrG _ a' _ q = G q
      rw [wrG_N (by omega), wrG_N q2]
      exact hF.2 q q1 q2 q3
  · obtain ⟨hv, -⟩ := hP
    cases hv
theorem M_appendC (d : Nat) {c : Nat} (h : SB B G nx o a cap len tx) (hl : len + 1 ≤ B) (hc : c < 128) : Mt g (d + 4) m_StringBuilder_append_cf468 [.inr (0, o), .inl (.int (nI c))] (G, nx) 1 (2 * B) (pSB B (.inr (some (.inr (0, o)))) G nx o a (len + 1) (fun i => if i = len then nI c else tx i)) := by
  have h9 := h
  obtain ⟨⟨n, f, ho, h0, h1, h3⟩, -⟩ := h
  have ho' : rdM g (G, nx) (0, o) = some (false, 1, n, f) := ho
  refine Mt.of9 [some (.inr (0, o)), some (.inl (.int (nI c)))] (by decide +kernel) rfl rfl rfl rfl ?_
  refine ev_aload_n (k0 := 0) rfl d_StringBuilder_append_cf468_0 ?_
  refine ev_iload_n (k0 := 1) rfl d_StringBuilder_append_cf468_1 ?_
  refine Ev.room (mc := 1 + 0) (ms := 2 * B + 0) (ev_invSU (ci := 1) rfl (vs := [.inl (.int (nI c))]) ho' lj_StringBuilder_50 (M_appendC0 d h9 hl hc) rfl (Nat.le_of_ble_eq_true rfl) d_StringBuilder_append_cf468_2 ⟨fun v M' hP => ?_, fun E M' hP => ?_⟩) (by omega) (by omega)
  · obtain ⟨hv, hP2⟩ := hP
    cases hv
    refine ev_pop rfl d_StringBuilder_append_cf468_5 ?_
    refine ev_aload_n (k0 := 0) rfl d_StringBuilder_append_cf468_6 ?_
    exact ev_areturn (st := []) rfl (Or.inl ⟨_, rfl⟩) d_StringBuilder_append_cf468_7 ⟨rfl, hP2⟩
  · obtain ⟨hv, -⟩ := hP
    cases hv
end Builder

/-! A builder is made; its text is taken. -/
/-- a text of the JDK's at s, its bytes at v -/
def STo (G : RG) (s v len : Nat) (tx : Nat → Int32) : Prop := ∃ n f bf, G s = some (false, 0, n, f) ∧ f 0 = .inr (0, v) ∧ f 1 = .inl (.int 0) ∧ G v = some (true, 2, len, bf) ∧ ∀ i, i < len → bf i = .inl (.int (tx i))
section Made
variable {g : GL} {G : RG} {B nx o a cap len : Nat} {tx : Nat → Int32}
/-- AbstractStringBuilder(16) on the object o -/
theorem M_absInit (d : Nat) {n : Nat} {f : Nat → RV} (ho : G o = some (false, 1, n, f)) (hon : o < nx) : Mt g d m_AbstractStringBuilder_init_d00df [.inr (0, o), .inl (.int 16)] (G, nx) 1 16 (fun r M' => r = rV ∧ M' = (wrG (wrG (wrG G nx (true, 2, 16, zb)) o (false, 1, n, updF f 0 (.inr (0, nx)))) o (false, 1, n, updF (updF f 0 (.inr (0, nx))) 1 (.inl (.int 0))), nx + 1)) := by
  refine Mt.of9 [some (.inr (0, o)), some (.inl (.int 16))] (by decide +kernel) rfl rfl rfl rfl ?_
  refine ev_aload_n (k0 := 0) rfl d_AbstractStringBuilder_init_d00df_0 ?_
  refine ev_objInit (Nat.le_of_ble_eq_true rfl) oj_AbstractStringBuilder_3 oi_1 oi_2 d_AbstractStringBuilder_init_d00df_1 ?_
  refine ev_gets sa_cs sj_AbstractStringBuilder_18 (Or.inl rfl) d_AbstractStringBuilder_init_d00df_4 ?_
  refine ev_if_eq (tgt := 25) (by decide) d_AbstractStringBuilder_init_d00df_7 (fun c => absurd c (by decide)) (fun _ => ?_)
  refine ev_aload_n (k0 := 0) rfl d_AbstractStringBuilder_init_d00df_10 ?_
  refine ev_iload_n (k0 := 1) rfl d_AbstractStringBuilder_init_d00df_11 ?_
  refine Ev.room (mc := 0 + 1) (ms := 0 + 16) (ev_newa (M := (G, nx)) (ei := 2) (n := 16) (at0 := .byte) (ty := .byte) rfl rfl (by decide) ac_byte (by decide) (by decide) (by decide) d_AbstractStringBuilder_init_d00df_12 ?_) (by omega) (by omega)
  refine ev_putf (M := (G, nx)) fj_AbstractStringBuilder_15_1 ((wrG_N (by omega)).trans ho) (show okv g (.array .byte) _ from okv_arr) d_AbstractStringBuilder_init_d00df_14 ?_
  refine ev_aload_n (k0 := 0) rfl d_AbstractStringBuilder_init_d00df_17 ?_
  refine cw_iconst 0 d_AbstractStringBuilder_init_d00df_18 rfl ?_
  refine ev_putf (M := (G, nx)) fj_AbstractStringBuilder_22_1 wrG_S (show okv g .byte _ from ⟨rfl, rfl⟩) d_AbstractStringBuilder_init_d00df_19 ?_
  refine ev_goto (tgt := 38) (by decide) d_AbstractStringBuilder_init_d00df_22 ?_
  exact ev_return (st := []) rfl d_AbstractStringBuilder_init_d00df_38 ⟨rfl, rfl⟩
theorem M_sbInit (d : Nat) (hB : 8 ≤ B ∧ B ≤ 1000) {n : Nat} {f : Nat → RV} (ho : G o = some (false, 1, n, f)) (h3 : f 3 = .inl (.int 0)) (hon : o < nx) : Mt g (d + 1) m_StringBuilder_init_da8c8 [.inr (0, o)] (G, nx) 1 16 (fun r M' => r = rV ∧ SB B M'.1 M'.2 o nx 16 0 tx ∧ M'.2 = nx + 1 ∧ ∀ q, q < nx → q ≠ o → M'.1 q = G q) := by
  refine Mt.of9 [some (.inr (0, o))] (by decide +kernel) rfl rfl rfl rfl ?_
  refine ev_aload_n (k0 := 0) rfl d_StringBuilder_init_da8c8_0 ?_
  refine cw_bipush 16 d_StringBuilder_init_da8c8_1 rfl ?_
  refine Ev.room (mc := 1 + 0) (ms := 16 + 0) (ev_invI (vs := [.inl (.int 16)]) lj_StringBuilder_1 (M_absInit d ho hon) rfl (Nat.le_of_ble_eq_true rfl) d_StringBuilder_init_da8c8_3 ⟨fun v M' hP => ?_, fun E M' hP => ?_⟩) (by omega) (by omega)
  · obtain ⟨hv, hM⟩ := hP
    cases hv
    subst hM
    refine ev_return (st := []) rfl d_StringBuilder_init_da8c8_6 ⟨rfl, ⟨⟨n, _, wrG_S, rfl, rfl, h3⟩, ⟨zb, (wrG_N (by omega)).trans ((wrG_N (by omega)).trans wrG_S), fun i hi => by omega, fun i _ => okB_zb⟩, by omega, by show o < nx + 1; omega, by show nx < nx + 1; omega, by omega, by omega⟩, rfl, fun q q1 q2 => ?_⟩
    show wrG _ o _ q = G q
    rw [wrG_N q2, wrG_N q2, wrG_N (by omega)]
  · obtain ⟨hv, -⟩ := hP
    cases hv
theorem M_checkLength (d : Nat) {M : RM} {n : Nat} (hn : n < 2 ^ 31) : Mt g d m_Arrays_checkLength_df160 [.inl (.int 0), .inl (.int (nI n))] M 0 0 (pRO rV M) := by
  refine Mt.of9 [some (.inl (.int 0)), some (.inl (.int (nI n)))] (by decide +kernel) rfl rfl rfl rfl ?_
  refine ev_iload_n (k0 := 1) rfl d_Arrays_checkLength_df160_0 ?_
  refine ev_iload_n (k0 := 0) rfl d_Arrays_checkLength_df160_1 ?_
  refine ev_icmp_ge (tgt := 37) (by decide) d_Arrays_checkLength_df160_2 (fun _ => ?_) (fun c => absurd (nI_pos' hn) c)
  exact ev_return (st := []) rfl d_Arrays_checkLength_df160_37 ⟨rfl, rfl⟩
theorem M_rangeByte (d : Nat) {bf : Nat → RV} (ha : G a = some (true, 2, cap, bf)) (hf : ∀ i, i < cap → okB (bf i)) (hl : len ≤ cap) (hc : cap ≤ 4000) (han : a < nx) : Mt g (d + 1) m_Arrays_copyOfRangeByte_39247 [.inr (0, a), .inl (.int 0), .inl (.int (nI len))] (G, nx) 1 len (pRO (.inr (some (.inr (0, nx)))) (wrG (wrG G nx (true, 2, len, zb)) nx (true, 2, len, va_cpy bf zb 0 0 len), nx + 1)) := by
  have hc0 : (0 : Int32).toNatClampNeg = 0 := by decide
  have hcc : (nI len).toNatClampNeg = len := nI_clamp (by omega)
  have es : nI len - 0 = nI len := by rw [Int32.sub_zero]
  refine Mt.of9 [some (.inr (0, a)), some (.inl (.int 0)), some (.inl (.int (nI len))), none, none] (by decide +kernel) rfl rfl rfl rfl ?_
  refine ev_iload_n (k0 := 1) rfl d_Arrays_copyOfRangeByte_39247_0 ?_
  refine ev_iload_n (k0 := 2) rfl d_Arrays_copyOfRangeByte_39247_1 ?_
  refine Ev.z9 (ev_invS (vs := [.inl (.int 0), .inl (.int (nI len))]) lj_Arrays_343.1 lj_Arrays_343.2 (M_checkLength d (by omega)) rfl (Nat.le_of_ble_eq_true rfl) d_Arrays_copyOfRangeByte_39247_2 (aft_ro ?_))
  refine ev_iload_n (k0 := 2) rfl d_Arrays_copyOfRangeByte_39247_5 ?_
  refine ev_iload_n (k0 := 1) rfl d_Arrays_copyOfRangeByte_39247_6 ?_
  refine ev_isub d_Arrays_copyOfRangeByte_39247_7 ?_
  refine cw_istoreN_n 3 (nI len) es.symm [some (.inr (0, a)), some (.inl (.int 0)), some (.inl (.int (nI len))), some (.inl (.int (nI len))), none] d_Arrays_copyOfRangeByte_39247_8 rfl rfl rfl ?_
  refine ev_iload_n (k0 := 3) rfl d_Arrays_copyOfRangeByte_39247_9 ?_
  refine Ev.room (mc := 0 + 1) (ms := 0 + len) (ev_newa (M := (G, nx)) (ei := 2) (n := len) (at0 := .byte) (ty := .byte) rfl rfl (by decide) ac_byte (nI_pos (by omega)) hcc (by show len * 1 ≤ _; omega) d_Arrays_copyOfRangeByte_39247_10 ?_) (by omega) (by omega)
  refine cw_astoreN 4 [some (.inr (0, a)), some (.inl (.int 0)), some (.inl (.int (nI len))), some (.inl (.int (nI len))), some (.inr (0, nx))] d_Arrays_copyOfRangeByte_39247_12 rfl rfl rfl ?_
  have ha' : wrG G nx (true, 2, len, zb) a = some (true, 2, cap, bf) := (wrG_N (by omega)).trans ha
  refine ev_aload_n (k0 := 0) rfl d_Arrays_copyOfRangeByte_39247_14 ?_
  refine ev_iload_n (k0 := 1) rfl d_Arrays_copyOfRangeByte_39247_15 ?_
  refine ev_aload (i := 4) rfl d_Arrays_copyOfRangeByte_39247_16 ?_
  refine cw_iconst 0 d_Arrays_copyOfRangeByte_39247_18 rfl ?_
  refine ev_aload_n (k0 := 0) rfl d_Arrays_copyOfRangeByte_39247_19 ?_
  refine ev_alen (show rdM g (wrG G nx (true, 2, len, zb), nx + 1) (0, a) = _ from ha') d_Arrays_copyOfRangeByte_39247_20 ?_
  refine ev_iload_n (k0 := 1) rfl d_Arrays_copyOfRangeByte_39247_21 ?_
  refine ev_isub d_Arrays_copyOfRangeByte_39247_22 ?_
  rw [Int32.sub_zero]
  refine ev_iload_n (k0 := 3) rfl d_Arrays_copyOfRangeByte_39247_23 ?_
  refine ev_mmin (Nat.le_of_ble_eq_true rfl) lj_Arrays_304 d_Arrays_copyOfRangeByte_39247_24 ?_
  have em : (if nI len < Int32.ofNat cap then nI len else Int32.ofNat cap) = nI len := by
    show (if nI len < nI cap then nI len else nI cap) = nI len
    by_cases h : len < cap
    · rw [if_pos (show nI len < nI cap from nI_lt h (by omega))]
    · rw [if_neg (show ¬ nI len < nI cap from nI_nlt (by omega) (by omega))]
      show nI cap = nI len
      congr 1
      omega
  rw [em]
  refine ev_copy (Nat.le_of_ble_eq_true rfl) (ei := 2) rfl rfl lj_Arrays_150 ha' wrG_S (by decide) (by decide) (nI_pos (by omega)) (by rw [hc0, hcc]; omega) (by rw [hc0, hcc]; omega) (fun i hi => by
    rw [hcc] at hi
    rw [hc0, Nat.zero_add]
    obtain ⟨y, e1, e2⟩ := hf i (by omega)
    exact ⟨y, e1, e2⟩) d_Arrays_copyOfRangeByte_39247_27 ?_
  rw [hc0, hcc]
  refine ev_aload (i := 4) rfl d_Arrays_copyOfRangeByte_39247_30 ?_
  exact ev_areturn (st := []) rfl (Or.inr ⟨_, rfl⟩) d_Arrays_copyOfRangeByte_39247_32 ⟨rfl, rfl⟩
theorem M_range (d : Nat) {bf : Nat → RV} (ha : G a = some (true, 2, cap, bf)) (hb : ∀ i, i < len → bf i = .inl (.int (tx i))) (hf : ∀ i, i < cap → okB (bf i)) (hl : len ≤ cap) (hc : cap ≤ 4000) (han : a < nx) : Mt g (d + 2) m_Arrays_copyOfRange_39247 [.inr (0, a), .inl (.int 0), .inl (.int (nI len))] (G, nx) 1 len (fun r M' => r = .inr (some (.inr (0, nx))) ∧ M'.2 = nx + 1 ∧ (∃ b9, M'.1 nx = some (true, 2, len, b9) ∧ ∀ i, i < len → b9 i = .inl (.int (tx i))) ∧ ∀ q, q < nx → M'.1 q = G q) := by
  refine Mt.of9 [some (.inr (0, a)), some (.inl (.int 0)), some (.inl (.int (nI len)))] (by decide +kernel) rfl rfl rfl rfl ?_
  refine ev_iload_n (k0 := 1) rfl d_Arrays_copyOfRange_39247_0 ?_
  refine ev_if_ne (tgt := 10) (by decide) d_Arrays_copyOfRange_39247_1 (fun c => absurd rfl c) (fun _ => ?_)
  refine ev_iload_n (k0 := 2) rfl d_Arrays_copyOfRange_39247_4 ?_
  refine ev_aload_n (k0 := 0) rfl d_Arrays_copyOfRange_39247_5 ?_
  refine ev_alen (show rdM g (G, nx) (0, a) = _ from ha) d_Arrays_copyOfRange_39247_6 ?_
  refine ev_icmp_eq (tgt := 17) (by decide) d_Arrays_copyOfRange_39247_7 (fun c => ?_) (fun c => ?_)
  · have e : len = cap := (nI_eq (by omega) (by omega)).mp (show nI len = nI cap from c)
    subst e
    refine ev_aload_n (k0 := 0) rfl d_Arrays_copyOfRange_39247_17 ?_
    refine Ev.room (mc := 0 + 1) (ms := 0 + len) (ev_clone ha (Nat.le_of_ble_eq_true rfl) jc_link hf d_Arrays_copyOfRange_39247_18 ?_) (by omega) (by omega)
    refine ev_castB wrG_S cl_Arrays_311 d_Arrays_copyOfRange_39247_21 ?_
    exact ev_areturn (st := []) rfl (Or.inr ⟨_, rfl⟩) d_Arrays_copyOfRange_39247_24 ⟨rfl, rfl, ⟨bf, wrG_S, hb⟩, fun q hq => wrG_N (by omega)⟩
  · refine ev_aload_n (k0 := 0) rfl d_Arrays_copyOfRange_39247_10 ?_
    refine ev_iload_n (k0 := 1) rfl d_Arrays_copyOfRange_39247_11 ?_
    refine ev_iload_n (k0 := 2) rfl d_Arrays_copyOfRange_39247_12 ?_
    refine Ev.room (mc := 1 + 0) (ms := len + 0) (ev_invS (vs := [.inr (0, a), .inl (.int 0), .inl (.int (nI len))]) lj_Arrays_339.1 lj_Arrays_339.2 (M_rangeByte d ha hf hl hc han) rfl (Nat.le_of_ble_eq_true rfl) d_Arrays_copyOfRange_39247_13 (aft_ro ?_)) (by omega) (by omega)
    refine ev_areturn (st := []) rfl (Or.inr ⟨_, rfl⟩) d_Arrays_copyOfRange_39247_16 ⟨rfl, rfl, ⟨_, wrG_S, fun i hi => ?_⟩, fun q hq => (wrG_N (by omega)).trans (wrG_N (by omega))⟩
    unfold va_cpy
    rw [if_pos ⟨Nat.zero_le _, by omega⟩, Nat.sub_zero, Nat.zero_add]
    exact hb i hi
theorem M_getValue (d : Nat) {M : RM} {r v : Nat × Nat} {n : Nat} {f : Nat → RV} (hr : rdM g M r = some (false, 1, n, f)) (h0 : f 0 = .inr v) : Mt g d m_AbstractStringBuilder_getValue_6d5f1 [.inr r] M 0 0 (pRO (.inr (some (.inr v))) M) := by
  refine Mt.of9 [some (.inr r)] (by decide +kernel) rfl rfl rfl rfl ?_
  refine ev_aload_n (k0 := 0) rfl d_AbstractStringBuilder_getValue_6d5f1_0 ?_
  refine ev_getg gj_AbstractStringBuilder_15_1 hr d_AbstractStringBuilder_getValue_6d5f1_1 ?_
  rw [h0]
  exact ev_areturn (st := []) rfl (Or.inr ⟨_, rfl⟩) d_AbstractStringBuilder_getValue_6d5f1_4 ⟨rfl, rfl⟩
theorem M_absLength (d : Nat) {M : RM} {r : Nat × Nat} {n : Nat} {f : Nat → RV} {x : Int32} (hr : rdM g M r = some (false, 1, n, f)) (h3 : f 3 = .inl (.int x)) : Mt g d m_AbstractStringBuilder_length_8abf5 [.inr r] M 0 0 (pRO (rI x) M) := by
  refine Mt.of9 [some (.inr r)] (by decide +kernel) rfl rfl rfl rfl ?_
  refine ev_aload_n (k0 := 0) rfl d_AbstractStringBuilder_length_8abf5_0 ?_
  refine ev_getg gj_AbstractStringBuilder_79_1 hr d_AbstractStringBuilder_length_8abf5_1 ?_
  rw [h3]
  exact ev_ireturn (st := []) rfl rfl d_AbstractStringBuilder_length_8abf5_4 ⟨rfl, rfl⟩
theorem M_sbLength (d : Nat) {M : RM} {r : Nat × Nat} {n : Nat} {f : Nat → RV} {x : Int32} (hr : rdM g M r = some (false, 1, n, f)) (h3 : f 3 = .inl (.int x)) : Mt g (d + 1) m_StringBuilder_length_8abf5 [.inr r] M 0 0 (pRO (rI x) M) := by
  refine Mt.of9 [some (.inr r)] (by decide +kernel) rfl rfl rfl rfl ?_
  refine ev_aload_n (k0 := 0) rfl d_StringBuilder_length_8abf5_0 ?_
  refine Ev.z9 (ev_invSU (ci := 1) rfl (vs := []) hr lj_StringBuilder_343 (M_absLength d hr h3) rfl (Nat.le_of_ble_eq_true rfl) d_StringBuilder_length_8abf5_1 (aft_ro ?_))
  exact ev_ireturn (st := []) rfl rfl d_StringBuilder_length_8abf5_4 ⟨rfl, rfl⟩
/-- what is made of a builder's text -/
def pTS (G : RG) (nx s len : Nat) (tx : Nat → Int32) : RM → Prop := fun M' => M'.2 = nx + 1 ∧ STo M'.1 s nx len tx ∧ ∀ q, q < nx → q ≠ s → M'.1 q = G q
theorem M_strInit (d : Nat) {s n : Nat} {f : Nat → RV} (hs : G s = some (false, 0, n, f)) (hsn : s < nx) (hso : s ≠ o) (hsa : s ≠ a) (h : SB B G nx o a cap len tx) : Mt g (d + 3) m_String_init_db425 [.inr (0, s), .inr (0, o), .inl .null] (G, nx) 1 len (fun r M' => r = rV ∧ pTS G nx s len tx M') := by
  obtain ⟨⟨n', f', ho, h0, h1, h3⟩, ⟨bf, ha, hb1, hb2⟩, hoa, hon, han, hlc, hcap⟩ := h
  have ho' : rdM g (G, nx) (0, o) = some (false, 1, n', f') := ho
  refine Mt.of9 [some (.inr (0, s)), some (.inr (0, o)), some (.inl .null), none, none] (by decide +kernel) rfl rfl rfl rfl ?_
  refine ev_aload_n (k0 := 0) rfl d_String_init_db425_0 ?_
  refine ev_objInit (Nat.le_of_ble_eq_true rfl) oj_String_1 oi_1 oi_2 d_String_init_db425_1 ?_
  refine ev_aload_n (k0 := 1) rfl d_String_init_db425_4 ?_
  refine Ev.z9 (ev_invU (vs := []) ho' lj_String_552_1 (M_getValue (d + 2) ho' h0) rfl (Nat.le_of_ble_eq_true rfl) d_String_init_db425_5 (aft_ro ?_))
  refine cw_astoreN_n 3 [some (.inr (0, s)), some (.inr (0, o)), some (.inl .null), some (.inr (0, a)), none] d_String_init_db425_8 rfl rfl rfl ?_
  refine ev_aload_n (k0 := 1) rfl d_String_init_db425_9 ?_
  refine Ev.z9 (ev_invO (vs := []) ho' lo_String_549_1 (M_sbLength (d + 1) ho' h3) rfl (Nat.le_of_ble_eq_true rfl) d_String_init_db425_10 (aft_ro ?_))
  refine cw_istoreN 4 (nI len) rfl [some (.inr (0, s)), some (.inr (0, o)), some (.inl .null), some (.inr (0, a)), some (.inl (.int (nI len)))] d_String_init_db425_13 rfl rfl rfl ?_
  refine ev_aload_n (k0 := 1) rfl d_String_init_db425_15 ?_
  refine Ev.z9 (ev_invU (vs := []) ho' lj_String_1047_1 (M_isLatin1B (d + 2) ho' h1) rfl (Nat.le_of_ble_eq_true rfl) d_String_init_db425_16 (aft_ro ?_))
  refine ev_if_eq (tgt := 41) (by decide) d_String_init_db425_19 (fun z => absurd z (by decide)) (fun _ => ?_)
  refine ev_aload_n (k0 := 0) rfl d_String_init_db425_22 ?_
  refine cw_iconst 0 d_String_init_db425_23 rfl ?_
  refine ev_putfF (M := (G, nx)) fj_String_15_0 rfl hs (show okv g .byte _ from ⟨rfl, rfl⟩) d_String_init_db425_24 ?_
  refine ev_aload_n (k0 := 0) rfl d_String_init_db425_27 ?_
  refine ev_aload_n (k0 := 3) rfl d_String_init_db425_28 ?_
  refine cw_iconst 0 d_String_init_db425_29 rfl ?_
  refine ev_iload (i := 4) rfl d_String_init_db425_30 ?_
  refine Ev.room (mc := 1 + 0) (ms := len + 0) (ev_invS (vs := [.inr (0, a), .inl (.int 0), .inl (.int (nI len))]) lj_String_54.1 lj_String_54.2 (M_range d ((wrG_N (fun z => hsa z.symm)).trans ha) hb1 hb2 hlc (by omega) han) rfl (Nat.le_of_ble_eq_true rfl) d_String_init_db425_32 ⟨fun w M' hP => ?_, fun E M' hP => ?_⟩) (by omega) (by omega)
  · obtain ⟨hw, hM2, ⟨b9, hb9, hb8⟩, hF⟩ := hP
    cases hw
    obtain ⟨G', nx'⟩ := M'
    have hM2' : nx' = nx + 1 := hM2
    subst hM2'
    have hs' : G' s = some (false, 0, n, updF f 1 (.inl (.int 0))) := (hF s hsn).trans wrG_S
    refine ev_putfF (M := (G, nx)) fj_String_9_0 rfl hs' (show okv g (.array .byte) _ from okv_arr) d_String_init_db425_35 ?_
    refine ev_goto (tgt := 97) (by decide) d_String_init_db425_38 ?_
    refine ev_return (st := []) rfl d_String_init_db425_97 ⟨rfl, rfl, ⟨n, _, b9, wrG_S, rfl, rfl, (wrG_N (by omega)).trans hb9, hb8⟩, fun q q1 q2 => ?_⟩
    show wrG G' s _ q = G q
    rw [wrG_N q2]
    exact (hF q q1).trans (wrG_N q2)
  · obtain ⟨hw, -⟩ := hP
    cases hw
theorem M_strInit1 (d : Nat) {s n : Nat} {f : Nat → RV} (hs : G s = some (false, 0, n, f)) (hsn : s < nx) (hso : s ≠ o) (hsa : s ≠ a) (h : SB B G nx o a cap len tx) : Mt g (d + 4) m_String_init_81219 [.inr (0, s), .inr (0, o)] (G, nx) 1 len (fun r M' => r = rV ∧ pTS G nx s len tx M') := by
  refine Mt.of9 [some (.inr (0, s)), some (.inr (0, o))] (by decide +kernel) rfl rfl rfl rfl ?_
  refine ev_aload_n (k0 := 0) rfl d_String_init_81219_0 ?_
  refine ev_aload_n (k0 := 1) rfl d_String_init_81219_1 ?_
  refine ev_null d_String_init_81219_2 ?_
  refine Ev.room (mc := 1 + 0) (ms := len + 0) (ev_invI (vs := [.inr (0, o), .inl .null]) lj_String_489 (M_strInit d hs hsn hso hsa h) rfl (Nat.le_of_ble_eq_true rfl) d_String_init_81219_3 ⟨fun w M' hP => ?_, fun E M' hP => ?_⟩) (by omega) (by omega)
  · obtain ⟨hw, hP2⟩ := hP
    cases hw
    exact ev_return (st := []) rfl d_String_init_81219_6 ⟨rfl, hP2⟩
  · obtain ⟨hw, -⟩ := hP
    cases hw
theorem M_toString (d : Nat) (h : SB B G nx o a cap len tx) (hl : len ≤ 4000) : Mt g (d + 5) m_StringBuilder_toString_0e30d [.inr (0, o)] (G, nx) 2 (2 * B + 4) (fun r M' => r = .inr (some (.inr (0, nx))) ∧ M'.2 = nx + 2 ∧ STo M'.1 nx (nx + 1) len tx ∧ ∀ q, q < nx → M'.1 q = G q) := by
  obtain ⟨⟨n', f', ho, h0, h1, h3⟩, ⟨bf, ha, hb1, hb2⟩, hoa, hon, han, hlc, hcap⟩ := h
  refine Mt.of9 [some (.inr (0, o))] (by decide +kernel) rfl rfl rfl rfl ?_
  refine Ev.room (mc := 1 + 1) (ms := len + 4) (ev_new (M := (G, nx)) coC_0 cl_StringBuilder_18 in_String ii_String d_StringBuilder_toString_0e30d_0 ?_) (by omega) (by omega)
  refine ev_dup rfl d_StringBuilder_toString_0e30d_3 ?_
  refine ev_aload_n (k0 := 0) rfl d_StringBuilder_toString_0e30d_4 ?_
  refine Ev.room (mc := 1 + 0) (ms := len + 0) (ev_invI (vs := [.inr (0, o)]) lj_StringBuilder_137 (M_strInit1 d (s := nx) wrG_S (by omega) (by omega) (by omega) (show SB B _ (nx + 1) o a cap len tx from ⟨⟨n', f', (wrG_N (by omega)).trans ho, h0, h1, h3⟩, ⟨bf, (wrG_N (by omega)).trans ha, hb1, hb2⟩, hoa, by omega, by omega, hlc, hcap⟩)) rfl (Nat.le_of_ble_eq_true rfl) d_StringBuilder_toString_0e30d_5 ⟨fun w M' hP => ?_, fun E M' hP => ?_⟩) (by omega) (by omega)
  · obtain ⟨hw, hP1, hP2, hP3⟩ := hP
    cases hw
    exact ev_areturn (st := []) rfl (Or.inl ⟨_, rfl⟩) d_StringBuilder_toString_0e30d_8 ⟨rfl, hP1, hP2, fun q hq => (hP3 q (by omega) (by omega)).trans (wrG_N (by omega))⟩
  · obtain ⟨hw, -⟩ := hP
    cases hw
end Made

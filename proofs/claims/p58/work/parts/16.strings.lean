/-! Rows that speak of no memory. -/
theorem cw_iconst {g : GL} {d : Nat} {mi : MI} {pc : Nat} {ls : List (Option RV)} {st : List RV} {M : RM} {mc ms : Nat} {Post : RO → RM → Prop} {n : Int} (v : Int32) (hd : decode mi.2.1 pc = .ok (.iconst n, 1)) (hv : Int32.ofInt n = v) (k : Ev g d mi (pc + 1) ls (.inl (.int v) :: st) M mc ms Post) : Ev g d mi pc ls st M mc ms Post := by subst hv; exact ev_iconst hd k
theorem cw_bipush {g : GL} {d : Nat} {mi : MI} {pc : Nat} {ls : List (Option RV)} {st : List RV} {M : RM} {mc ms : Nat} {Post : RO → RM → Prop} {n : Int} (v : Int32) (hd : decode mi.2.1 pc = .ok (.bipush n, 2)) (hv : (Int8.ofInt n).toInt32 = v) (k : Ev g d mi (pc + 2) ls (.inl (.int v) :: st) M mc ms Post) : Ev g d mi pc ls st M mc ms Post := by subst hv; exact ev_bipush hd k
theorem cw_sipush {g : GL} {d : Nat} {mi : MI} {pc : Nat} {ls : List (Option RV)} {st : List RV} {M : RM} {mc ms : Nat} {Post : RO → RM → Prop} {n : Int} (v : Int32) (hd : decode mi.2.1 pc = .ok (.sipush n, 3)) (hv : (Int16.ofInt n).toInt32 = v) (k : Ev g d mi (pc + 3) ls (.inl (.int v) :: st) M mc ms Post) : Ev g d mi pc ls st M mc ms Post := by subst hv; exact ev_sipush hd k
theorem cw_istoreN_n {g : GL} {d : Nat} {mi : MI} {pc : Nat} {ls : List (Option RV)} {st : List RV} {M : RM} {mc ms : Nat} {Post : RO → RM → Prop} (k0 : Fin 4) {x : Int32} (y : Int32) (e : y = x) (ls' : List (Option RV)) (hd : decode mi.2.1 pc = .ok (.istore_n k0, 1)) (ok : okst ls (k0 : Nat) = true) (hn : Nat.ble ((k0 : Nat) + 1) mi.2.2.1 = true) (hs : ls.set (k0 : Nat) (some (.inl (.int y))) = ls') (k : Ev g d mi (pc + 1) ls' st M mc ms Post) : Ev g d mi pc ls (.inl (.int x) :: st) M mc ms Post := by subst e; subst hs; exact ev_istore_n ok (Nat.le_of_ble_eq_true hn) hd k
theorem cw_istoreN {g : GL} {d : Nat} {mi : MI} {pc : Nat} {ls : List (Option RV)} {st : List RV} {M : RM} {mc ms : Nat} {Post : RO → RM → Prop} (i : Nat) {x : Int32} (y : Int32) (e : y = x) (ls' : List (Option RV)) (hd : decode mi.2.1 pc = .ok (.istore i, 2)) (ok : okst ls i = true) (hn : Nat.ble (i + 1) mi.2.2.1 = true) (hs : ls.set i (some (.inl (.int y))) = ls') (k : Ev g d mi (pc + 2) ls' st M mc ms Post) : Ev g d mi pc ls (.inl (.int x) :: st) M mc ms Post := by subst e; subst hs; exact ev_istore ok (Nat.le_of_ble_eq_true hn) hd k
theorem cw_astoreN_n {g : GL} {d : Nat} {mi : MI} {pc : Nat} {ls : List (Option RV)} {st : List RV} {M : RM} {mc ms : Nat} {Post : RO → RM → Prop} (k0 : Fin 4) {r : Nat × Nat} (ls' : List (Option RV)) (hd : decode mi.2.1 pc = .ok (.astore_n k0, 1)) (ok : okst ls (k0 : Nat) = true) (hn : Nat.ble ((k0 : Nat) + 1) mi.2.2.1 = true) (hs : ls.set (k0 : Nat) (some (.inr r)) = ls') (k : Ev g d mi (pc + 1) ls' st M mc ms Post) : Ev g d mi pc ls (.inr r :: st) M mc ms Post := by subst hs; exact ev_astore_n ok (Nat.le_of_ble_eq_true hn) hd k
theorem cw_astoreN {g : GL} {d : Nat} {mi : MI} {pc : Nat} {ls : List (Option RV)} {st : List RV} {M : RM} {mc ms : Nat} {Post : RO → RM → Prop} (i : Nat) {r : Nat × Nat} (ls' : List (Option RV)) (hd : decode mi.2.1 pc = .ok (.astore i, 2)) (ok : okst ls i = true) (hn : Nat.ble (i + 1) mi.2.2.1 = true) (hs : ls.set i (some (.inr r)) = ls') (k : Ev g d mi (pc + 2) ls' st M mc ms Post) : Ev g d mi pc ls (.inr r :: st) M mc ms Post := by subst hs; exact ev_astore ok (Nat.le_of_ble_eq_true hn) hd k
theorem cw_iincN {g : GL} {d : Nat} {mi : MI} {pc : Nat} {ls : List (Option RV)} {st : List RV} {M : RM} {mc ms : Nat} {Post : RO → RM → Prop} (i : Nat) {n : Int} {x : Int32} (y : Int32) (ls' : List (Option RV)) (hd : decode mi.2.1 pc = .ok (.iinc i n, 3)) (hl0 : ls[i]? = some (some (.inl (.int x)))) (ok : okst ls i = true) (hn : Nat.ble (i + 1) mi.2.2.1 = true) (hv : Int32.ofInt n = y) (hs : ls.set i (some (.inl (.int (x + y)))) = ls') (k : Ev g d mi (pc + 3) ls' st M mc ms Post) : Ev g d mi pc ls st M mc ms Post := by subst hv; subst hs; exact ev_iinc hl0 ok (Nat.le_of_ble_eq_true hn) hd k
theorem cw_S {g : GL} {d : Nat} {mi : MI} {pc : Nat} {ls : List (Option RV)} {st : List RV} {M : RM} {mc ms : Nat} {Post : RO → RM → Prop} {idx n mc1 ms1 : Nat} {mi2 : MI} (vs : List RV) {Post1 : RO → RM → Prop} (lk : mi2.2.2.2.2 = [] ∧ LST mi.1.cls idx n mi2) (hM9 : Mt g d mi2 vs M mc1 ms1 Post1) (hn : vs.length = n) (hst : Nat.ble st.length 4 = true) (hd : decode mi.2.1 pc = .ok (.invokestatic idx, 3)) (hA : Aft g (d + 1) mi (pc + 3) ls st mc ms Post1 Post) : Ev g (d + 1) mi pc ls (vs.reverse ++ st) M (mc1 + mc) (ms1 + ms) Post :=
  ev_invS lk.1 lk.2 hM9 hn (Nat.le_of_ble_eq_true hst) hd hA
theorem cw_SN {g : GL} {d : Nat} {mi : MI} {pc : Nat} {ls : List (Option RV)} {st : List RV} {M : RM} {mc ms : Nat} {Post : RO → RM → Prop} {idx n mc1 ms1 : Nat} {mi2 : MI} (vs : List RV) {Post1 : RO → RM → Prop} (lk : LSN mi.1.cls idx n mi2) (hM9 : Mt g d mi2 vs M mc1 ms1 Post1) (hn : vs.length = n) (hst : Nat.ble st.length 4 = true) (hd : decode mi.2.1 pc = .ok (.invokestatic idx, 3)) (hA : Aft g (d + 1) mi (pc + 3) ls st mc ms Post1 Post) : Ev g (d + 1) mi pc ls (vs.reverse ++ st) M (mc1 + mc) (ms1 + ms) Post :=
  ev_invSN lk hM9 hn (Nat.le_of_ble_eq_true hst) hd hA
theorem dlt9 {a b : Nat} (h : decide (a < b) = true) : a < b := of_decide_eq_true h
theorem Ev.z9 {g : GL} {d : Nat} {mi : MI} {pc : Nat} {ls : List (Option RV)} {st : List RV} {M : RM} {mc ms : Nat} {Post : RO → RM → Prop} (h : Ev g d mi pc ls st M (0 + mc) (0 + ms) Post) : Ev g d mi pc ls st M mc ms Post := by rwa [Nat.zero_add, Nat.zero_add] at h
def okF9 (x : UInt32) : Bool := decide (x &&& 0x7fffffff ≤ 0x7f800000)
def okD9 (x : UInt64) : Bool := decide (x &&& 0x7fffffffffffffff ≤ 0x7ff0000000000000)
theorem okF9_n {x : UInt32} (h : okF9 x = true) : vf_n32 x := by
  have h1 : x &&& 0x7fffffff ≤ 0x7f800000 := of_decide_eq_true h
  exact h1
theorem okD9_n {x : UInt64} (h : okD9 x = true) : vf_n64 x := by
  have h1 : x &&& 0x7fffffffffffffff ≤ 0x7ff0000000000000 := of_decide_eq_true h
  exact h1
/-! Texts that are there: length and charAt of the JDK's String, the coder 0. -/
theorem sa_cs : ("java/lang/String", "COMPACT_STRINGS", "Z", (.inl (.int 1) : Value ⊕ (Nat × Nat))) ∈ rSta := List.mem_cons_self
theorem ev_getsQ {g : GL} {d : Nat} {mi : MI} {pc : Nat} {ls : List (Option RV)} {st : List RV} {M : RM} {mc ms : Nat} {Post : RO → RM → Prop} {idx : Nat} (hlink : Cond.fieldLink mi.1.cls idx "jdk/internal/util/Preconditions" "SIOOBE_FORMATTER" "Ljava/util/function/BiFunction;" ∈ lw_good) (hd : decode mi.2.1 pc = .ok (.getstatic idx, 3)) (k : ∀ v, one1 v = true → Ev g d mi (pc + 3) ls (v :: st) M mc ms Post) : Ev g d mi pc ls st M mc ms Post := by
  intro p e R s m args below meth c H locs cells slots lsA TC TS hC hM hS hl h1 h2 h3 h4
  obtain ⟨hx, hb, hml, hown, hr, hlk, hxt, hts, hK, hf, hlo, hnm⟩ := id hC
  rcases hK.2.2.2.2.2.1.2 with h | ⟨t, h⟩
  · exact va_gets hx hb h hS hown (hts _ hlink) (fun _ h => h) hd (k (.inl .null) rfl p e R s m args below meth c H locs cells slots lsA TC TS hC hM hS hl h1 h2 h3 h4)
  · exact va_gets hx hb h hS hown (hts _ hlink) (fun _ h => h) hd (k (.inl (.ref t)) rfl p e R s m args below meth c H locs cells slots lsA TC TS hC hM hS hl h1 h2 h3 h4)
def okc (x : Int32) : Prop := ((x &&& 255).toUInt32 % 65536).toInt32 = x ∧ narrow .char (.int x) = .int x
theorem okc_n : ∀ k, k < 128 → okc (Int32.ofNat k) := by
  have h : ∀ k, k < 128 → ((Int32.ofNat k &&& 255).toUInt32 % 65536).toInt32 = Int32.ofNat k ∧ narrow .char (.int (Int32.ofNat k)) = .int (Int32.ofNat k) := by decide +kernel
  exact h
section Texts
variable {g : GL} {M : RM} {r v : Nat × Nat} {ci n len : Nat} {f bf : Nat → RV} {i x : Int32}
theorem fj_val (hc : ci = 0 ∨ ci = 14) : FLg "java/lang/String" 9 ci 0 := by
  rcases hc with rfl | rfl
  · exact gj_String_9_0
  · exact gj_String_9_14
theorem fj_cod (hc : ci = 0 ∨ ci = 14) : FLg "java/lang/String" 15 ci 1 := by
  rcases hc with rfl | rfl
  · exact gj_String_15_0
  · exact gj_String_15_14
theorem M_coder (d : Nat) (hc : ci = 0 ∨ ci = 14) (hr : rdM g M r = some (false, ci, n, f)) (h1 : f 1 = .inl (.int 0)) : Mt g d m_String_coder_7d493 [.inr r] M 0 0 (pRO (rI 0) M) := by
  refine Mt.of9 [some (.inr r)] (by decide +kernel) rfl rfl rfl rfl ?_
  refine ev_gets sa_cs sj_String_38 (Or.inl rfl) d_String_coder_7d493_0 ?_
  refine ev_if_eq (tgt := 13) (by decide) d_String_coder_7d493_3 (fun c => absurd c (by decide)) (fun _ => ?_)
  refine ev_aload_n (k0 := 0) rfl d_String_coder_7d493_6 ?_
  refine ev_getg (fj_cod hc) hr d_String_coder_7d493_7 ?_
  rw [h1]
  refine ev_goto (tgt := 14) (by decide) d_String_coder_7d493_10 ?_
  exact ev_ireturn (st := []) rfl rfl d_String_coder_7d493_14 ⟨rfl, rfl⟩
theorem M_isLatin1 (d : Nat) (hc : ci = 0 ∨ ci = 14) (hr : rdM g M r = some (false, ci, n, f)) (h1 : f 1 = .inl (.int 0)) : Mt g d m_String_isLatin1_aae02 [.inr r] M 0 0 (pRO (rI 1) M) := by
  refine Mt.of9 [some (.inr r)] (by decide +kernel) rfl rfl rfl rfl ?_
  refine ev_gets sa_cs sj_String_38 (Or.inl rfl) d_String_isLatin1_aae02_0 ?_
  refine ev_if_eq (tgt := 17) (by decide) d_String_isLatin1_aae02_3 (fun c => absurd c (by decide)) (fun _ => ?_)
  refine ev_aload_n (k0 := 0) rfl d_String_isLatin1_aae02_6 ?_
  refine ev_getg (fj_cod hc) hr d_String_isLatin1_aae02_7 ?_
  rw [h1]
  refine ev_if_ne (tgt := 17) (by decide) d_String_isLatin1_aae02_10 (fun c => absurd rfl c) (fun _ => ?_)
  refine cw_iconst 1 d_String_isLatin1_aae02_13 rfl ?_
  refine ev_goto (tgt := 18) (by decide) d_String_isLatin1_aae02_14 ?_
  exact ev_ireturn (st := []) rfl rfl d_String_isLatin1_aae02_18 ⟨rfl, rfl⟩
theorem M_length (d : Nat) (hc : ci = 0 ∨ ci = 14) (hr : rdM g M r = some (false, ci, n, f)) (h0 : f 0 = .inr v) (h1 : f 1 = .inl (.int 0)) (hv : rdM g M v = some (true, 2, len, bf)) : Mt g (d + 1) m_String_length_8abf5 [.inr r] M 0 0 (pRO (rI (Int32.ofNat len)) M) := by
  have lk : LV "java/lang/String" 335 ci 0 m_String_coder_7d493 := by
    rcases hc with rfl | rfl
    · exact lj_String_335_0
    · exact lj_String_335_14
  refine Mt.of9 [some (.inr r)] (by decide +kernel) rfl rfl rfl rfl ?_
  refine ev_aload_n (k0 := 0) rfl d_String_length_8abf5_0 ?_
  refine ev_getg (fj_val hc) hr d_String_length_8abf5_1 ?_
  rw [h0]
  refine ev_alen hv d_String_length_8abf5_4 ?_
  refine ev_aload_n (k0 := 0) rfl d_String_length_8abf5_5 ?_
  refine Ev.z9 (ev_invV (vs := []) hr lk (M_coder d hc hr h1) rfl (Nat.le_of_ble_eq_true rfl) d_String_length_8abf5_6 (aft_ro ?_))
  refine ev_ishr d_String_length_8abf5_9 ?_
  have e : Int32.ofNat len >>> ((0 : Int32) &&& 31) = Int32.ofNat len := by
    rw [show (0 : Int32) &&& 31 = 0 by decide]
    exact Int32.shiftRight_zero
  exact ev_ireturn (st := []) rfl rfl d_String_length_8abf5_10 ⟨by rw [e]; rfl, rfl⟩
theorem M_pcheck (d : Nat) {w : RV} (hw : one1 w = true) {k : Int32} (h0 : ¬ i < 0) (h1 : i < k) : Mt g d m_Preconditions_checkIndex_8e157 [.inl (.int i), .inl (.int k), w] M 0 0 (pRO (rI i) M) := by
  refine Mt.of (by decide +kernel) rfl (fun z hz => ?_) (Nat.le_of_ble_eq_true rfl) ?_
  · simp only [List.mem_cons, List.not_mem_nil, or_false] at hz
    rcases hz with rfl | rfl | rfl
    · rfl
    · rfl
    · exact hw
  show Ev g d m_Preconditions_checkIndex_8e157 0 [some (.inl (.int i)), some (.inl (.int k)), some w] [] M 0 0 _
  refine ev_iload_n (k0 := 0) rfl d_Preconditions_checkIndex_8e157_0 ?_
  refine ev_if_lt (tgt := 9) (by decide) d_Preconditions_checkIndex_8e157_1 (fun c => absurd c h0) (fun _ => ?_)
  refine ev_iload_n (k0 := 0) rfl d_Preconditions_checkIndex_8e157_4 ?_
  refine ev_iload_n (k0 := 1) rfl d_Preconditions_checkIndex_8e157_5 ?_
  refine ev_icmp_lt (tgt := 16) (by decide) d_Preconditions_checkIndex_8e157_6 (fun _ => ?_) (fun c => absurd h1 c)
  refine ev_iload_n (k0 := 0) rfl d_Preconditions_checkIndex_8e157_16 ?_
  exact ev_ireturn (st := []) rfl rfl d_Preconditions_checkIndex_8e157_17 ⟨rfl, rfl⟩
theorem M_checkIndex (d : Nat) {k : Int32} (h0 : ¬ i < 0) (h1 : i < k) : Mt g (d + 1) m_String_checkIndex_df160 [.inl (.int i), .inl (.int k)] M 0 0 (pRO rV M) := by
  refine Mt.of9 [some (.inl (.int i)), some (.inl (.int k))] (by decide +kernel) rfl rfl rfl rfl ?_
  refine ev_iload_n (k0 := 0) rfl d_String_checkIndex_df160_0 ?_
  refine ev_iload_n (k0 := 1) rfl d_String_checkIndex_df160_1 ?_
  refine ev_getsQ sj_String_1053 d_String_checkIndex_df160_2 (fun w hw => ?_)
  refine Ev.z9 (ev_invS (vs := [.inl (.int i), .inl (.int k), w]) lj_String_1059.1 lj_String_1059.2 (M_pcheck d hw h0 h1) rfl (Nat.le_of_ble_eq_true rfl) d_String_checkIndex_df160_5 (aft_ro ?_))
  refine ev_pop rfl d_String_checkIndex_df160_8 ?_
  exact ev_return (st := []) rfl d_String_checkIndex_df160_9 ⟨rfl, rfl⟩
theorem M_latCharAt (d : Nat) (hv : rdM g M v = some (true, 2, len, bf)) (hi : inb i len = true) (hl : len < 2 ^ 31) (hx : bf i.toNatClampNeg = .inl (.int x)) (ho : okc x) : Mt g (d + 2) m_StringLatin1_charAt_3b067 [.inr v, .inl (.int i)] M 0 0 (pRO (rI x) M) := by
  have hp := inb_vp hi
  have h0 : ¬ i < 0 := fun z => hp (Or.inl z)
  have hlt := inb_lt hi
  have h1 : i < Int32.ofNat len := by
    have e := nn9 h0
    rw [Int32.lt_iff_toInt_lt, e]
    have e2 : (Int32.ofNat len).toInt = (len : Int) := nI_toInt hl
    rw [e2]
    omega
  refine Mt.of9 [some (.inr v), some (.inl (.int i))] (by decide +kernel) rfl rfl rfl rfl ?_
  refine ev_iload_n (k0 := 1) rfl d_StringLatin1_charAt_3b067_0 ?_
  refine ev_aload_n (k0 := 0) rfl d_StringLatin1_charAt_3b067_1 ?_
  refine ev_alen hv d_StringLatin1_charAt_3b067_2 ?_
  refine Ev.z9 (ev_invS (vs := [.inl (.int i), .inl (.int (Int32.ofNat len))]) lj_StringLatin1_9.1 lj_StringLatin1_9.2 (M_checkIndex d h0 h1) rfl (Nat.le_of_ble_eq_true rfl) d_StringLatin1_charAt_3b067_3 (aft_ro ?_))
  refine ev_aload_n (k0 := 0) rfl d_StringLatin1_charAt_3b067_6 ?_
  refine ev_iload_n (k0 := 1) rfl d_StringLatin1_charAt_3b067_7 ?_
  refine ev_bald hv hp d_StringLatin1_charAt_3b067_8 ?_
  rw [hx]
  refine cw_sipush 255 d_StringLatin1_charAt_3b067_9 rfl ?_
  refine ev_iand d_StringLatin1_charAt_3b067_12 ?_
  refine ev_i2c d_StringLatin1_charAt_3b067_13 ?_
  rw [ho.1]
  exact ev_ireturn (st := []) rfl ho.2 d_StringLatin1_charAt_3b067_14 ⟨rfl, rfl⟩
theorem M_charAt (d : Nat) (hc : ci = 0 ∨ ci = 14) (hr : rdM g M r = some (false, ci, n, f)) (h0 : f 0 = .inr v) (h1 : f 1 = .inl (.int 0)) (hv : rdM g M v = some (true, 2, len, bf)) (hi : inb i len = true) (hl : len < 2 ^ 31) (hx : bf i.toNatClampNeg = .inl (.int x)) (ho : okc x) : Mt g (d + 3) m_String_charAt_5068e [.inr r, .inl (.int i)] M 0 0 (pRO (rI x) M) := by
  have lk : LV "java/lang/String" 492 ci 0 m_String_isLatin1_aae02 := by
    rcases hc with rfl | rfl
    · exact lj_String_492_0
    · exact lj_String_492_14
  refine Mt.of9 [some (.inr r), some (.inl (.int i))] (by decide +kernel) rfl rfl rfl rfl ?_
  refine ev_aload_n (k0 := 0) rfl d_String_charAt_5068e_0 ?_
  refine Ev.z9 (ev_invV (vs := []) hr lk (M_isLatin1 (d + 2) hc hr h1) rfl (Nat.le_of_ble_eq_true rfl) d_String_charAt_5068e_1 (aft_ro ?_))
  refine ev_if_eq (tgt := 16) (by decide) d_String_charAt_5068e_4 (fun c => absurd c (by decide)) (fun _ => ?_)
  refine ev_aload_n (k0 := 0) rfl d_String_charAt_5068e_7 ?_
  refine ev_getg (fj_val hc) hr d_String_charAt_5068e_8 ?_
  rw [h0]
  refine ev_iload_n (k0 := 1) rfl d_String_charAt_5068e_11 ?_
  refine Ev.z9 (ev_invS (vs := [.inr v, .inl (.int i)]) lj_String_495.1 lj_String_495.2 (M_latCharAt d hv hi hl hx ho) rfl (Nat.le_of_ble_eq_true rfl) d_String_charAt_5068e_12 (aft_ro ?_))
  exact ev_ireturn (st := []) rfl ho.2 d_String_charAt_5068e_15 ⟨rfl, rfl⟩
end Texts
theorem sTx_ok : ∀ w, w < 28 → (sTx w).length < 1000 ∧ ∀ x ∈ sTx w, ((x &&& 255).toUInt32 % 65536).toInt32 = x ∧ narrow .char (.int x) = .int x := by decide +kernel
theorem sTx_okc {w k : Nat} (hw : w < 28) : okc ((sTx w).getD k 0) := by
  rw [List.getD_eq_getElem?_getD]
  cases h : (sTx w)[k]? with
  | none => exact okc_n 0 (by omega)
  | some x => exact (sTx_ok w hw).2 x (List.mem_of_getElem? h)
theorem cv_slen {g : GL} {d : Nat} {mi : MI} {pc : Nat} {ls : List (Option RV)} {st : List RV} {mc ms : Nat} {Post : RO → RM → Prop} {nx : Nat} {G : RG} {idx w : Nat} (hSG : SG g) (hw : w < 28) (lk : LV mi.1.cls idx 14 0 m_String_length_8abf5) (hst : Nat.ble st.length 4 = true) (hd : decode mi.2.1 pc = .ok (.invokevirtual idx, 3)) (k : Ev g (d + 4) mi (pc + 3) ls (.inl (.int (sLen w)) :: st) (G, nx) mc ms Post) : Ev g (d + 4) mi pc ls (.inr (1, w) :: st) (G, nx) mc ms Post := by
  obtain ⟨h1, h2⟩ := hSG w hw
  exact Ev.z9 (ev_invV (vs := []) (show rdM g (G, nx) (1, w) = _ from h1) lk (M_length (v := (1, 40 + w)) (d + 2) (Or.inr rfl) (show rdM g (G, nx) (1, w) = _ from h1) rfl rfl h2) rfl (Nat.le_of_ble_eq_true hst) hd (aft_ro k))
theorem cv_sat {g : GL} {d : Nat} {mi : MI} {pc : Nat} {ls : List (Option RV)} {st : List RV} {mc ms : Nat} {Post : RO → RM → Prop} {nx : Nat} {G : RG} {idx w : Nat} {i : Int32} (hSG : SG g) (hw : w < 28) (hi : inb i (sTx w).length = true) (lk : LV mi.1.cls idx 14 1 m_String_charAt_5068e) (hst : Nat.ble st.length 4 = true) (hd : decode mi.2.1 pc = .ok (.invokevirtual idx, 3)) (k : Ev g (d + 4) mi (pc + 3) ls (.inl (.int (sAt w i)) :: st) (G, nx) mc ms Post) : Ev g (d + 4) mi pc ls (.inl (.int i) :: .inr (1, w) :: st) (G, nx) mc ms Post := by
  obtain ⟨h1, h2⟩ := hSG w hw
  exact Ev.z9 (ev_invV (vs := [.inl (.int i)]) (show rdM g (G, nx) (1, w) = _ from h1) lk (M_charAt (v := (1, 40 + w)) d (Or.inr rfl) (show rdM g (G, nx) (1, w) = _ from h1) rfl rfl h2 hi (by have := (sTx_ok w hw).1; omega) rfl (sTx_okc hw)) rfl (Nat.le_of_ble_eq_true hst) hd (aft_ro k))

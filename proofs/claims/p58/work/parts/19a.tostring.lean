/-! The builder's numbers go on; toString. -/
section Numbers
variable {g : GL} {G : RG} {nx : Nat}
theorem idivJ {w : Nat} (h : w < 2 ^ 30) : nJ w / 100 = nJ (w / 100) := by
  apply nJ_ext (by omega)
  rw [Int32.toInt_div, nJ_toInt (by omega), show (100 : Int32).toInt = 100 by decide]
  have e : (-(w : Int)).tdiv 100 = -((w / 100 : Nat) : Int) := by
    rw [Int.neg_tdiv]
    congr 1
  rw [e]
  simp only [Int.bmod]
  omega
theorem imodJ {w : Nat} (h : w < 2 ^ 23) : nJ (w / 100) * 100 - nJ w = nI (w % 100) := by
  apply Int32.toInt_inj.mp
  rw [Int32.toInt_sub, Int32.toInt_mul, nJ_toInt (by omega), nJ_toInt (by omega), show (100 : Int32).toInt = 100 by decide, nI_toInt (by omega)]
  simp only [Int.bmod]
  omega
theorem gc_it (d : Nat) (hD : DG g) {a cap : Nat} {x1 : Int32} (hG : ∃ b0, G a = some (true, 2, cap, b0)) (hc : cap ≤ 4000) : ∀ (k w p : Nat) (b : Nat → RV) (u3 u4 : Option RV), wide1 (some u3) = false → wide1 (some u4) = false → w < 10 ^ k → w < 100000 → 1 ≤ k → dl w ≤ p → p ≤ cap →
    Ev g d m_Integer_getChars_ba4f3 22 [some (.inl (.int (nJ w))), some (.inl (.int x1)), some (.inr (0, a)), u3, u4, some (.inl (.int (nI p))), some (.inl (.int 0))] [] (wrG G a (true, 2, cap, b), nx) 0 0 (fun r M' => (∃ x, r = rI x) ∧ M' = (wrG G a (true, 2, cap, wrd k b p w), nx)) := by
  intro k
  induction k using Nat.strongRecOn with
  | _ k ih =>
  intro w p b u3 u4 hu3 hu4 hk hw hk1 hp hpc
  refine ev_iload_n (k0 := 0) rfl d_Integer_getChars_ba4f3_22 ?_
  refine cw_bipush (nJ 100) d_Integer_getChars_ba4f3_23 (by decide +kernel) ?_
  refine ev_icmp_gt (tgt := 72) (by decide) d_Integer_getChars_ba4f3_25 (fun c => ?_) (fun c => ?_)
  · have c1 : w < 100 := (nJ_lt (by omega) (by omega)).mp c
    exact gc_end d hD hu4 hk hk1 hG c1 hp hpc hc
  · have c1 : 100 ≤ w := by
      have : ¬ w < 100 := fun z => c ((nJ_lt (by omega) (by omega)).mpr z)
      omega
    have hk3 : 3 ≤ k := by
      rcases (show k = 1 ∨ k = 2 ∨ 3 ≤ k by omega) with rfl | rfl | h
      · simp at hk; omega
      · simp at hk; omega
      · exact h
    obtain ⟨m, rfl⟩ : ∃ m, k = m + 2 := ⟨k - 2, by omega⟩
    have hw3 : w / 100 < 10 ^ m := by
      rw [Nat.pow_succ, Nat.pow_succ] at hk
      exact Nat.div_lt_of_lt_mul (by omega)
    have hd2 : dl w = dl (w / 100) + 2 := by
      rw [dl_10 (by omega) hw, dl_10 (show 10 ≤ w / 10 by omega) (by omega), Nat.div_div_eq_div_mul]
    have hd1 := dl_le (w := w / 100)
    have hr : ∀ {b9 : Nat → RV}, rdM g (wrG G a (true, 2, cap, b9), nx) (1, 200) = some (true, 2, 100, fun j => .inl (.int (nI (48 + j % 10)))) := hD.1
    have hr2 : ∀ {b9 : Nat → RV}, rdM g (wrG G a (true, 2, cap, b9), nx) (1, 201) = some (true, 2, 100, fun j => .inl (.int (nI (48 + j / 10)))) := hD.2
    refine ev_iload_n (k0 := 0) rfl d_Integer_getChars_ba4f3_28 ?_
    refine cw_bipush 100 d_Integer_getChars_ba4f3_29 rfl ?_
    refine ev_idiv (by decide) d_Integer_getChars_ba4f3_31 ?_
    refine cw_istoreN_n 3 (nJ (w / 100)) (idivJ (by omega)).symm [some (.inl (.int (nJ w))), some (.inl (.int x1)), some (.inr (0, a)), some (.inl (.int (nJ (w / 100)))), u4, some (.inl (.int (nI p))), some (.inl (.int 0))] d_Integer_getChars_ba4f3_32 rfl rfl rfl ?_
    refine ev_iload_n (k0 := 3) rfl d_Integer_getChars_ba4f3_33 ?_
    refine cw_bipush 100 d_Integer_getChars_ba4f3_34 rfl ?_
    refine ev_imul d_Integer_getChars_ba4f3_36 ?_
    refine ev_iload_n (k0 := 0) rfl d_Integer_getChars_ba4f3_37 ?_
    refine ev_isub d_Integer_getChars_ba4f3_38 ?_
    refine cw_istoreN 4 (nI (w % 100)) (imodJ (by omega)).symm [some (.inl (.int (nJ w))), some (.inl (.int x1)), some (.inr (0, a)), some (.inl (.int (nJ (w / 100)))), some (.inl (.int (nI (w % 100)))), some (.inl (.int (nI p))), some (.inl (.int 0))] d_Integer_getChars_ba4f3_39 rfl rfl rfl ?_
    refine ev_iload_n (k0 := 3) rfl d_Integer_getChars_ba4f3_41 ?_
    refine cw_istoreN_n 0 (nJ (w / 100)) rfl [some (.inl (.int (nJ (w / 100)))), some (.inl (.int x1)), some (.inr (0, a)), some (.inl (.int (nJ (w / 100)))), some (.inl (.int (nI (w % 100)))), some (.inl (.int (nI p))), some (.inl (.int 0))] d_Integer_getChars_ba4f3_42 rfl rfl rfl ?_
    refine ev_aload_n (k0 := 2) rfl d_Integer_getChars_ba4f3_43 ?_
    refine cw_iincN 5 (-1) [some (.inl (.int (nJ (w / 100)))), some (.inl (.int x1)), some (.inr (0, a)), some (.inl (.int (nJ (w / 100)))), some (.inl (.int (nI (w % 100)))), some (.inl (.int (nI p + (-1)))), some (.inl (.int 0))] d_Integer_getChars_ba4f3_44 rfl rfl rfl rfl rfl ?_
    rw [dec9 (by omega)]
    refine ev_iload (i := 5) rfl d_Integer_getChars_ba4f3_47 ?_
    refine ev_gets sa_do sj_Integer_83 (Or.inl rfl) d_Integer_getChars_ba4f3_49 ?_
    refine ev_iload (i := 4) rfl d_Integer_getChars_ba4f3_52 ?_
    refine ev_bald hr (vp_in_nI (by omega) (by omega)) d_Integer_getChars_ba4f3_54 ?_
    rw [nI_clamp (by omega)]
    refine ev_bast (M := (G, nx)) wrG_S (vp_in_nI (by omega) (by omega)) d_Integer_getChars_ba4f3_55 ?_
    rw [(by9 (by omega)).2.1, nI_clamp (by omega), wrG2]
    refine ev_aload_n (k0 := 2) rfl d_Integer_getChars_ba4f3_56 ?_
    refine cw_iincN 5 (-1) [some (.inl (.int (nJ (w / 100)))), some (.inl (.int x1)), some (.inr (0, a)), some (.inl (.int (nJ (w / 100)))), some (.inl (.int (nI (w % 100)))), some (.inl (.int (nI (p - 1) + (-1)))), some (.inl (.int 0))] d_Integer_getChars_ba4f3_57 rfl rfl rfl rfl rfl ?_
    rw [dec9 (by omega)]
    refine ev_iload (i := 5) rfl d_Integer_getChars_ba4f3_60 ?_
    refine ev_gets sa_dt sj_Integer_87 (Or.inl rfl) d_Integer_getChars_ba4f3_62 ?_
    refine ev_iload (i := 4) rfl d_Integer_getChars_ba4f3_65 ?_
    refine ev_bald hr2 (vp_in_nI (by omega) (by omega)) d_Integer_getChars_ba4f3_67 ?_
    rw [nI_clamp (by omega)]
    refine ev_bast (M := (G, nx)) wrG_S (vp_in_nI (by omega) (by omega)) d_Integer_getChars_ba4f3_68 ?_
    rw [(by9 (by omega)).2.1, nI_clamp (by omega), wrG2]
    refine ev_goto (tgt := 22) (by decide) d_Integer_getChars_ba4f3_69 ?_
    have e : wrd (m + 2) b p w = wrd m (updF (updF b (p - 1) (.inl (.int (nI (48 + w % 100 % 10))))) (p - 1 - 1) (.inl (.int (nI (48 + w % 100 / 10))))) (p - 1 - 1) (w / 100) := by
      rw [wrd_l (by omega), wrd_l (by omega), Nat.div_div_eq_div_mul, show w % 10 = w % 100 % 10 by omega, show w / 10 % 10 = w % 100 / 10 by omega]
    rw [e]
    exact ih m (by omega) (w / 100) (p - 1 - 1) _ _ _ rfl rfl hw3 (by omega) (by omega) (by omega) (by omega)
theorem M_getChars (d : Nat) (hD : DG g) {a cap v p : Nat} {bf : Nat → RV} (ha : G a = some (true, 2, cap, bf)) (hc : cap ≤ 4000) (hv : v < 100000) (hp : dl v ≤ p) (hpc : p ≤ cap) : Mt g d m_Integer_getChars_ba4f3 [.inl (.int (nI v)), .inl (.int (nI p)), .inr (0, a)] (G, nx) 0 0 (fun r M' => (∃ x, r = rI x) ∧ M' = (wrG G a (true, 2, cap, wrd 5 bf p v), nx)) := by
  refine Mt.of9 [some (.inl (.int (nI v))), some (.inl (.int (nI p))), some (.inr (0, a)), none, none, none, none] (by decide +kernel) rfl rfl rfl rfl ?_
  refine ev_iload_n (k0 := 1) rfl d_Integer_getChars_ba4f3_0 ?_
  refine cw_istoreN 5 (nI p) rfl [some (.inl (.int (nI v))), some (.inl (.int (nI p))), some (.inr (0, a)), none, none, some (.inl (.int (nI p))), none] d_Integer_getChars_ba4f3_1 rfl rfl rfl ?_
  refine ev_iload_n (k0 := 0) rfl d_Integer_getChars_ba4f3_3 ?_
  refine ev_if_ge (tgt := 11) (by decide) d_Integer_getChars_ba4f3_4 (fun _ => ?_) (fun c => absurd (nI_pos' (by omega)) c)
  refine cw_iconst 0 d_Integer_getChars_ba4f3_11 rfl ?_
  refine cw_istoreN 6 0 rfl [some (.inl (.int (nI v))), some (.inl (.int (nI p))), some (.inr (0, a)), none, none, some (.inl (.int (nI p))), some (.inl (.int 0))] d_Integer_getChars_ba4f3_12 rfl rfl rfl ?_
  refine ev_iload (i := 6) rfl d_Integer_getChars_ba4f3_14 ?_
  refine ev_if_ne (tgt := 22) (by decide) d_Integer_getChars_ba4f3_16 (fun c => absurd rfl c) (fun _ => ?_)
  refine ev_iload_n (k0 := 0) rfl d_Integer_getChars_ba4f3_19 ?_
  refine ev_ineg d_Integer_getChars_ba4f3_20 ?_
  refine cw_istoreN_n 0 (nJ v) (nJ_of (by omega)).symm [some (.inl (.int (nJ v))), some (.inl (.int (nI p))), some (.inr (0, a)), none, none, some (.inl (.int (nI p))), some (.inl (.int 0))] d_Integer_getChars_ba4f3_21 rfl rfl rfl ?_
  have e : G = wrG G a (true, 2, cap, bf) := by
    funext q
    unfold wrG
    split
    · rename_i h; rw [h, ha]
    · rfl
  have h := gc_it (nx := nx) d hD (x1 := nI p) ⟨bf, ha⟩ hc 5 v p bf none none rfl rfl (by omega) hv (by omega) hp hpc
  rw [← e] at h
  exact h
variable {B o a cap len : Nat} {tx : Nat → Int32}
/-- the letters with a number behind them -/
def txI (tx : Nat → Int32) (len v : Nat) : Nat → Int32 := fun i => if i < len then tx i else nI (48 + (v / 10 ^ (len + dl v - 1 - i)) % 10)
theorem M_appendI0 (d : Nat) (hD : DG g) {v : Nat} (h : SB B G nx o a cap len tx) (hl : len + dl v ≤ B) (hv : v < 100000) : Mt g (d + 3) m_AbstractStringBuilder_append_c97b9 [.inr (0, o), .inl (.int (nI v))] (G, nx) 1 (2 * B) (pSB B (.inr (some (.inr (0, o)))) G nx o a (len + dl v) (txI tx len v)) := by
  have h9 := h
  have hd1 := dl_le (w := v)
  obtain ⟨⟨n, f, ho, h0, h1, h3⟩, -⟩ := h
  have ho' : rdM g (G, nx) (0, o) = some (false, 1, n, f) := ho
  refine Mt.of9 [some (.inr (0, o)), some (.inl (.int (nI v))), none, none] (by decide +kernel) rfl rfl rfl rfl ?_
  refine ev_aload_n (k0 := 0) rfl d_AbstractStringBuilder_append_c97b9_0 ?_
  refine ev_getg gj_AbstractStringBuilder_79_1 ho' d_AbstractStringBuilder_append_c97b9_1 ?_
  rw [h3]
  refine cw_istoreN_n 2 (nI len) rfl [some (.inr (0, o)), some (.inl (.int (nI v))), some (.inl (.int (nI len))), none] d_AbstractStringBuilder_append_c97b9_4 rfl rfl rfl ?_
  refine ev_iload_n (k0 := 2) rfl d_AbstractStringBuilder_append_c97b9_5 ?_
  refine ev_iload_n (k0 := 1) rfl d_AbstractStringBuilder_append_c97b9_6 ?_
  refine Ev.z9 (ev_invS (vs := [.inl (.int (nI v))]) lj_AbstractStringBuilder_245.1 lj_AbstractStringBuilder_245.2 (M_stringSize (d + 2) hv) rfl (Nat.le_of_ble_eq_true rfl) d_AbstractStringBuilder_append_c97b9_7 (aft_ro ?_))
  refine ev_iadd d_AbstractStringBuilder_append_c97b9_10 ?_
  refine cw_istoreN_n 3 (nI (len + dl v)) (nI_add _ _).symm [some (.inr (0, o)), some (.inl (.int (nI v))), some (.inl (.int (nI len))), some (.inl (.int (nI (len + dl v))))] d_AbstractStringBuilder_append_c97b9_11 rfl rfl rfl ?_
  refine ev_aload_n (k0 := 0) rfl d_AbstractStringBuilder_append_c97b9_12 ?_
  refine ev_iload_n (k0 := 3) rfl d_AbstractStringBuilder_append_c97b9_13 ?_
  refine Ev.room (mc := 1 + 0) (ms := 2 * B + 0) (ev_invU (vs := [.inl (.int (nI (len + dl v)))]) ho' lj_AbstractStringBuilder_100_1 (M_ensure d h9 hl) rfl (Nat.le_of_ble_eq_true rfl) d_AbstractStringBuilder_append_c97b9_14 ⟨fun w M' hP => ?_, fun E M' hP => ?_⟩) (by omega) (by omega)
  · obtain ⟨hw, a', cap', hS, hqc, haa, hF⟩ := hP
    cases hw
    obtain ⟨G', nx'⟩ := M'
    obtain ⟨⟨n', f', go, g0, g1, g3⟩, ⟨bf, ga, gb1, gb2⟩, goa, gon, gan, glc, gcap⟩ := hS
    have go' : rdM g (G', nx') (0, o) = some (false, 1, n', f') := go
    show Ev g (d + 2 + 1) _ 17 _ [] _ 0 0 _
    refine ev_aload_n (k0 := 0) rfl d_AbstractStringBuilder_append_c97b9_17 ?_
    refine Ev.z9 (ev_invU (vs := []) go' lj_AbstractStringBuilder_83_1 (M_isLatin1B (d + 2) go' g1) rfl (Nat.le_of_ble_eq_true rfl) d_AbstractStringBuilder_append_c97b9_18 (aft_ro ?_))
    refine ev_if_eq (tgt := 37) (by decide) d_AbstractStringBuilder_append_c97b9_21 (fun z => absurd z (by decide)) (fun _ => ?_)
    refine ev_iload_n (k0 := 1) rfl d_AbstractStringBuilder_append_c97b9_24 ?_
    refine ev_iload_n (k0 := 3) rfl d_AbstractStringBuilder_append_c97b9_25 ?_
    refine ev_aload_n (k0 := 0) rfl d_AbstractStringBuilder_append_c97b9_26 ?_
    refine ev_getg gj_AbstractStringBuilder_15_1 go' d_AbstractStringBuilder_append_c97b9_27 ?_
    rw [g0]
    refine Ev.z9 (ev_invS (vs := [.inl (.int (nI v)), .inl (.int (nI (len + dl v))), .inr (0, a')]) lj_AbstractStringBuilder_248.1 lj_AbstractStringBuilder_248.2 (M_getChars (d + 2) hD ga (by omega) hv (by omega) hqc) rfl (Nat.le_of_ble_eq_true rfl) d_AbstractStringBuilder_append_c97b9_30 ⟨fun w M9 hP => ?_, fun E M9 hP => ?_⟩)
    · obtain ⟨⟨x, hx⟩, hM⟩ := hP
      cases hx
      subst hM
      refine ev_pop rfl d_AbstractStringBuilder_append_c97b9_33 ?_
      refine ev_goto (tgt := 48) (by decide) d_AbstractStringBuilder_append_c97b9_34 ?_
      refine ev_aload_n (k0 := 0) rfl d_AbstractStringBuilder_append_c97b9_48 ?_
      refine ev_iload_n (k0 := 3) rfl d_AbstractStringBuilder_append_c97b9_49 ?_
      refine ev_putf (M := (G, nx)) fj_AbstractStringBuilder_79_1 ((wrG_N goa).trans go) (show okv g .int _ from okv_int) d_AbstractStringBuilder_append_c97b9_50 ?_
      refine ev_aload_n (k0 := 0) rfl d_AbstractStringBuilder_append_c97b9_53 ?_
      refine ev_areturn (st := []) rfl (Or.inl ⟨_, rfl⟩) d_AbstractStringBuilder_append_c97b9_54 ⟨rfl, a', cap', ⟨⟨n', _, wrG_S, g0, g1, rfl⟩, ⟨_, (wrG_N (fun z => goa z.symm)).trans wrG_S, fun i hi => ?_, fun i hi => ?_⟩, goa, gon, gan, hqc, gcap⟩, haa, hF.1, fun q q1 q2 q3 => ?_⟩
      · rw [wrd_at (by omega) hv (by omega) (by omega)]
        show _ = (.inl (.int (if i < len then tx i else nI (48 + (v / 10 ^ (len + dl v - 1 - i)) % 10))) : RV)
        by_cases e : i < len
        · rw [if_neg (by omega), if_pos e]
          exact gb1 i e
        · rw [if_pos (by omega), if_neg e]
      · rw [wrd_at (by omega) hv (by omega) (by omega)]
        split
        · exact ⟨_, rfl, (by9 (by omega)).2.2⟩
        · exact gb2 i hi
      · show wrG _ o _ q = G q
        rw [wrG_N q2, wrG_N (by omega)]
        exact hF.2 q q1 q2 q3
    · obtain ⟨⟨x, hx⟩, -⟩ := hP
      cases hx
  · obtain ⟨hw, -⟩ := hP
    cases hw
theorem M_appendI (d : Nat) (hD : DG g) {v : Nat} (h : SB B G nx o a cap len tx) (hl : len + dl v ≤ B) (hv : v < 100000) : Mt g (d + 4) m_StringBuilder_append_bf812 [.inr (0, o), .inl (.int (nI v))] (G, nx) 1 (2 * B) (pSB B (.inr (some (.inr (0, o)))) G nx o a (len + dl v) (txI tx len v)) := by
  have h9 := h
  obtain ⟨⟨n, f, ho, h0, h1, h3⟩, -⟩ := h
  have ho' : rdM g (G, nx) (0, o) = some (false, 1, n, f) := ho
  refine Mt.of9 [some (.inr (0, o)), some (.inl (.int (nI v)))] (by decide +kernel) rfl rfl rfl rfl ?_
  refine ev_aload_n (k0 := 0) rfl d_StringBuilder_append_bf812_0 ?_
  refine ev_iload_n (k0 := 1) rfl d_StringBuilder_append_bf812_1 ?_
  refine Ev.room (mc := 1 + 0) (ms := 2 * B + 0) (ev_invSU (ci := 1) rfl (vs := [.inl (.int (nI v))]) ho' lj_StringBuilder_53 (M_appendI0 d hD h9 hl hv) rfl (Nat.le_of_ble_eq_true rfl) d_StringBuilder_append_bf812_2 ⟨fun v M' hP => ?_, fun E M' hP => ?_⟩) (by omega) (by omega)
  · obtain ⟨hv, hP2⟩ := hP
    cases hv
    refine ev_pop rfl d_StringBuilder_append_bf812_5 ?_
    refine ev_aload_n (k0 := 0) rfl d_StringBuilder_append_bf812_6 ?_
    exact ev_areturn (st := []) rfl (Or.inl ⟨_, rfl⟩) d_StringBuilder_append_bf812_7 ⟨rfl, hP2⟩
  · obtain ⟨hv, -⟩ := hP
    cases hv
end Numbers

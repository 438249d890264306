/-! The class writes a name. -/
theorem i2c9 : ∀ c, c < 128 → ((nI c).toUInt32 % 65536).toInt32 = nI c := by
  have h9 : ∀ c, c < 128 → ((Int32.ofNat c).toUInt32 % 65536).toInt32 = Int32.ofNat c := by decide +kernel
  exact h9
theorem BI.at {G0 : RG} {n0 o b : Nat} {l l' : List Nat} {M : RM} (h : BI G0 n0 o b l M) (e : l = l') : BI G0 n0 o b l' M := by subst e; exact h
theorem BI.le {G0 : RG} {n0 o b b' : Nat} {l : List Nat} {M : RM} (h : BI G0 n0 o b l M) (e : b ≤ b') : BI G0 n0 o b' l M := by
  obtain ⟨a, cap, h1, h2, h3, h4⟩ := h
  exact ⟨a, cap, h1, h2, ⟨h3.1, by omega⟩, h4⟩
section Name
variable {g : GL} {F G0 : RG} {n0 o j c n : Nat} {μ : Mem} {l w : List Nat}
theorem wt_loop (d : Nat) (hv : vc 3 j) (hG : LM vc 0 535 μ F G0) (hn : 535 ≤ n0) (hc : c < 8) (hw : okw w) (hcode : μ 23 j c = nI (e5 w)) (hl : l.length + 6 ≤ 71) : ∀ k b M, k ≤ 6 → BI G0 n0 o b (l ++ lts (w.take (w.length - k))) M → Ev g (d + 5) m_Names_writeTo 12 [some (.inr (0, off 3 j)), some (.inr (0, o)), some (.inl (.int (nI c))), some (.inl (.int (nI (5 * k) - 5))), none] [] M k (142 * k) (fun r M' => r = rV ∧ BI G0 n0 o (b + k) (l ++ lts w) M') := by
  obtain ⟨w0, w6, wl⟩ := id hw
  intro k
  induction k with
  | zero =>
    intro b M _ hb
    refine ev_iload_n (k0 := 3) rfl d_Names_writeTo_12 ?_
    refine ev_if_lt (tgt := 53) (by decide) d_Names_writeTo_13 (fun _ => ?_) (fun z => absurd (show (nI (5 * 0) - 5) < 0 by decide) z)
    exact ev_return (st := []) rfl d_Names_writeTo_53 ⟨rfl, hb.at (by rw [Nat.sub_zero, List.take_length])⟩
  | succ k ih =>
    intro b M hk hb
    obtain ⟨G1, nx1⟩ := M
    have hG1 : LM vc 0 535 μ G1 G1 := hb.lm hn hG
    have es : nI (5 * (k + 1)) - 5 = nI (5 * k) := by
      rw [show (5 : Int32) = nI 5 from rfl, nI_sub (by omega)]
      congr 1
    rw [es]
    refine ev_iload_n (k0 := 3) rfl d_Names_writeTo_12 ?_
    refine ev_if_lt (tgt := 53) (by decide) d_Names_writeTo_13 (fun z => absurd z (nI_nlt (b := 0) (by omega) (by omega))) (fun _ => ?_)
    refine ev_aload_n (k0 := 0) rfl d_Names_writeTo_16 ?_
    refine cv_get9 (.inr (0, off 23 j)) hG1 hv fg_Names_9_3 rfl rfl d_Names_writeTo_17 ?_
    refine ev_iload_n (k0 := 2) rfl d_Names_writeTo_20 ?_
    refine cv_iald hG1 (tv_3_0 hv) rfl rfl (show inb (nI c) 8 = true from inb_of (by omega) (by omega)) rfl d_Names_writeTo_21 ?_
    rw [nI_clamp (by omega), hcode]
    refine ev_iload_n (k0 := 3) rfl d_Names_writeTo_22 ?_
    refine ev_ishr d_Names_writeTo_23 ?_
    refine cw_bipush 31 d_Names_writeTo_24 rfl ?_
    refine ev_iand d_Names_writeTo_26 ?_
    rw [shr5 (e5_lt hw) k (by omega)]
    refine cw_istoreN 4 (nI (e5 w / 32 ^ k % 32)) rfl [some (.inr (0, off 3 j)), some (.inr (0, o)), some (.inl (.int (nI c))), some (.inl (.int (nI (5 * k)))), some (.inl (.int (nI (e5 w / 32 ^ k % 32))))] d_Names_writeTo_27 rfl rfl rfl ?_
    refine ev_iload (i := 4) rfl d_Names_writeTo_29 ?_
    have hend : ∀ b' M', BI G0 n0 o b' (l ++ lts (w.take (w.length - k))) M' → b' ≤ b + 1 → ∀ x, Ev g (d + 5) m_Names_writeTo 47 [some (.inr (0, off 3 j)), some (.inr (0, o)), some (.inl (.int (nI c))), some (.inl (.int (nI (5 * k)))), x] [] M' k (142 * k) (fun r M' => r = rV ∧ BI G0 n0 o (b + (k + 1)) (l ++ lts w) M') := by
      intro b' M' hb' hbb x
      refine cw_iincN 3 (-5) [some (.inr (0, off 3 j)), some (.inr (0, o)), some (.inl (.int (nI c))), some (.inl (.int (nI (5 * k) + (-5)))), x] d_Names_writeTo_47 rfl rfl rfl rfl rfl ?_
      refine ev_goto (tgt := 12) (by decide) d_Names_writeTo_50 ?_
      rw [show nI (5 * k) + (-5) = nI (5 * k) - 5 from (Int32.sub_eq_add_neg _ _).symm]
      refine Ev.sub (ls' := [some (.inr (0, off 3 j)), some (.inr (0, o)), some (.inl (.int (nI c))), some (.inl (.int (nI (5 * k) - 5))), none]) (LSb.s (LSb.s (LSb.s (LSb.s (LSb.n LSb.z))))) ?_
      refine (ih b' M' (by omega) hb').post ?_
      intro r M9 h9
      exact ⟨h9.1, h9.2.le (by omega)⟩
    by_cases e : k < w.length
    · have hd := fb_dig (b := 32) (by omega) w wl k e
      rw [← e5_fb] at hd
      have hz := wl (w.getD (w.length - 1 - k) 0) (by
        rw [List.getD_eq_getElem?_getD, List.getElem?_eq_getElem (by omega)]
        exact List.getElem_mem _)
      generalize hzz : w.getD (w.length - 1 - k) 0 = z at hd hz
      rw [hd]
      refine ev_if_eq (tgt := 47) (by decide) d_Names_writeTo_31 (fun y => by have := (nI_eq (a := z) (b := 0) (by omega) (by omega)).mp y; omega) (fun _ => ?_)
      refine ev_aload_n (k0 := 1) rfl d_Names_writeTo_34 ?_
      refine cw_bipush 97 d_Names_writeTo_35 rfl ?_
      refine ev_iload (i := 4) rfl d_Names_writeTo_37 ?_
      refine ev_iadd d_Names_writeTo_39 ?_
      refine cw_iconst 1 d_Names_writeTo_40 rfl ?_
      refine ev_isub d_Names_writeTo_41 ?_
      refine ev_i2c d_Names_writeTo_42 ?_
      rw [show ((97 : Int32) + nI z - 1) = nI (96 + z) from by
        rw [show (97 : Int32) = nI 97 from rfl, nI_add, show (1 : Int32) = nI 1 from rfl, nI_sub (by omega)]
        congr 1
        omega, i2c9 _ (by omega)]
      have hlen : (l ++ lts (w.take (w.length - (k + 1)))).length + 1 ≤ 71 := by
        rw [List.length_append, lts_len, List.length_take]
        omega
      refine Ev.room (mc := 1 + k) (ms := 142 + 142 * k) (ev_appC hb lj_Names_29_1 (by omega) hlen rfl d_Names_writeTo_43 (fun M' hb' => ?_)) (by omega) (by omega)
      refine ev_pop rfl d_Names_writeTo_46 ?_
      refine hend (b + 1) M' (hb'.at ?_) (Nat.le_refl _) _
      rw [show w.length - k = w.length - (k + 1) + 1 by omega, lts_snoc (by omega), show w.length - (k + 1) = w.length - 1 - k by omega, hzz, List.append_assoc]
    · have hz : e5 w / 32 ^ k = 0 := Nat.div_eq_of_lt (Nat.lt_of_lt_of_le (fb_lt (b := 32) (by omega) wl) (Nat.pow_le_pow_right (by omega) (by omega)))
      rw [hz]
      refine ev_if_eq (tgt := 47) (by decide) d_Names_writeTo_31 (fun _ => ?_) (fun y => absurd rfl y)
      refine Ev.room (mc := k) (ms := 142 * k) (hend b (G1, nx1) (hb.at ?_) (by omega) _) (by omega) (by omega)
      rw [show w.length - k = 0 by omega, show w.length - (k + 1) = 0 by omega]
theorem M_writeTo (d : Nat) {b : Nat} {M : RM} {x : Int32} {t : List Nat} (hv : vc 3 j) (hG : LM vc 0 535 μ F G0) (hn : 535 ≤ n0) (hx : NX μ j x t) (hb : BI G0 n0 o b l M) (hl : l.length + 6 ≤ 71) : Mt g (d + 5) m_Names_writeTo [.inr (0, off 3 j), .inr (0, o), .inl (.int x)] M 6 852 (fun r M' => r = rV ∧ BI G0 n0 o (b + 6) (l ++ t) M') := by
  obtain ⟨c, n, w, rfl, hc, hn8, h1, hw, hcode, rfl⟩ := hx
  obtain ⟨G1, nx1⟩ := M
  have hG1 : LM vc 0 535 μ G1 G1 := hb.lm hn hG
  refine Mt.of9 [some (.inr (0, off 3 j)), some (.inr (0, o)), some (.inl (.int (nI c))), none, none] (by decide +kernel) rfl rfl rfl rfl ?_
  refine ev_aload_n (k0 := 0) rfl d_Names_writeTo_0 ?_
  refine ev_iload_n (k0 := 2) rfl d_Names_writeTo_1 ?_
  have hh : f_Names_has j (nI c) μ = some 1 := by
    unfold f_Names_has
    rw [if_neg (show ¬ nI c < 0 from nI_nlt (b := 0) (by omega) (by omega)), h1, if_neg (nI_ge hc (by omega))]
  refine Ev.z9 (cv_V (d := d + 4) [.inl (.int (nI c))] hG1 hv rfl lk_Names_25 (w_Names_has (d + 4) hv hG1 hh) rfl rfl d_Names_writeTo_2 (aft_ro ?_))
  refine ev_if_ne (tgt := 9) (by decide) d_Names_writeTo_5 (fun _ => ?_) (fun z => absurd z (by decide))
  refine cw_bipush 25 d_Names_writeTo_9 rfl ?_
  refine cw_istoreN_n 3 (nI (5 * 6) - 5) (by decide) [some (.inr (0, off 3 j)), some (.inr (0, o)), some (.inl (.int (nI c))), some (.inl (.int (nI (5 * 6) - 5))), none] d_Names_writeTo_11 rfl rfl rfl ?_
  exact wt_loop d hv hG hn (by omega) hw hcode hl 6 b (G1, nx1) (Nat.le_refl _) (hb.at (by
    have h6 := hw.2.1
    rw [show w.length - 6 = 0 by omega]
    exact (List.append_nil _).symm))
end Name

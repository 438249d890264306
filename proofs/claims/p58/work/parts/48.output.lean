/-! The class writes a name. -/
theorem i2c9 : ∀ c, c < 128 → ((nI c).toUInt32 % 65536).toInt32 = nI c := by
  have h9 : ∀ c, c < 128 → ((Int32.ofNat c).toUInt32 % 65536).toInt32 = Int32.ofNat c := by decide +kernel
  exact h9
section Name
variable {g : GL} {F G0 : RG} {n0 o j c n : Nat} {μ : Mem} {l w : List Nat}
theorem wt_loop (d : Nat) (hv : vc 3 j) (hG : LM vc 0 535 μ F G0) (hn : 535 ≤ n0) (hc : c < 8) (hw : okw w) (hcode : μ 23 j c = nI (e5 w)) (hl : l.length + 6 ≤ 36) : ∀ k b M, k ≤ 6 → BI 36 G0 n0 o b (l ++ lts (w.take (w.length - k))) M → Ev g (d + 5) m_Names_writeTo 12 [some (.inr (0, off 3 j)), some (.inr (0, o)), some (.inl (.int (nI c))), some (.inl (.int (nI (5 * k) - 5))), none] [] M k (72 * k) (fun r M' => r = rV ∧ BI 36 G0 n0 o (b + k) (l ++ lts w) M') := by
  obtain ⟨w0, w6, wl⟩ := id hw
  intro k
  induction k with
  | zero =>
    intro b M _ hb
    refine ev_iload_n (k0 := 3) rfl d_Names_writeTo_12 ?_
    refine ev_if_lt (tgt := 53) (by decide) d_Names_writeTo_13 (fun _ => ?_) (fun z => absurd (show (nI (5 * 0) - 5) < 0 by decide) z)
    exact ev_return (st := []) rfl d_Names_writeTo_53 ⟨rfl, hb.at (by rw [Nat.sub_zero, List.take_length])⟩
  | succ k ih =>
    intro b M hk hb
    obtain ⟨G1, nx1⟩ := M
    have hG1 : LM vc 0 535 μ G1 G1 := hb.lm hn hG
    have es : nI (5 * (k + 1)) - 5 = nI (5 * k) := by
      rw [show (5 : Int32) = nI 5 from rfl, nI_sub (by omega)]
      congr 1
    rw [es]
    refine ev_iload_n (k0 := 3) rfl d_Names_writeTo_12 ?_
    refine ev_if_lt (tgt := 53) (by decide) d_Names_writeTo_13 (fun z => absurd z (nI_nlt (b := 0) (by omega) (by omega))) (fun _ => ?_)
    refine ev_aload_n (k0 := 0) rfl d_Names_writeTo_16 ?_
    refine cv_get9 (.inr (0, off 23 j)) hG1 hv fg_Names_9_3 rfl rfl d_Names_writeTo_17 ?_
    refine ev_iload_n (k0 := 2) rfl d_Names_writeTo_20 ?_
    refine cv_iald hG1 (tv_3_0 hv) rfl rfl (show inb (nI c) 8 = true from inb_of (by omega) (by omega)) rfl d_Names_writeTo_21 ?_
    rw [nI_clamp (by omega), hcode]
    refine ev_iload_n (k0 := 3) rfl d_Names_writeTo_22 ?_
    refine ev_ishr d_Names_writeTo_23 ?_
    refine cw_bipush 31 d_Names_writeTo_24 rfl ?_
    refine ev_iand d_Names_writeTo_26 ?_
    rw [shr5 (e5_lt hw) k (by omega)]
    refine cw_istoreN 4 (nI (e5 w / 32 ^ k % 32)) rfl [some (.inr (0, off 3 j)), some (.inr (0, o)), some (.inl (.int (nI c))), some (.inl (.int (nI (5 * k)))), some (.inl (.int (nI (e5 w / 32 ^ k % 32))))] d_Names_writeTo_27 rfl rfl rfl ?_
    refine ev_iload (i := 4) rfl d_Names_writeTo_29 ?_
    have hend : ∀ b' M', BI 36 G0 n0 o b' (l ++ lts (w.take (w.length - k))) M' → b' ≤ b + 1 → ∀ x, Ev g (d + 5) m_Names_writeTo 47 [some (.inr (0, off 3 j)), some (.inr (0, o)), some (.inl (.int (nI c))), some (.inl (.int (nI (5 * k)))), x] [] M' k (72 * k) (fun r M' => r = rV ∧ BI 36 G0 n0 o (b + (k + 1)) (l ++ lts w) M') := by
      intro b' M' hb' hbb x
      refine cw_iincN 3 (-5) [some (.inr (0, off 3 j)), some (.inr (0, o)), some (.inl (.int (nI c))), some (.inl (.int (nI (5 * k) + (-5)))), x] d_Names_writeTo_47 rfl rfl rfl rfl rfl ?_
      refine ev_goto (tgt := 12) (by decide) d_Names_writeTo_50 ?_
      rw [show nI (5 * k) + (-5) = nI (5 * k) - 5 from (Int32.sub_eq_add_neg _ _).symm]
      refine Ev.sub (ls' := [some (.inr (0, off 3 j)), some (.inr (0, o)), some (.inl (.int (nI c))), some (.inl (.int (nI (5 * k) - 5))), none]) (LSb.s (LSb.s (LSb.s (LSb.s (LSb.n LSb.z))))) ?_
      refine (ih b' M' (by omega) hb').post ?_
      intro r M9 h9
      exact ⟨h9.1, h9.2.le (by omega)⟩
    by_cases e : k < w.length
    · have hd := fb_dig (b := 32) (by omega) w wl k e
      rw [← e5_fb] at hd
      have hz := wl (w.getD (w.length - 1 - k) 0) (by
        rw [List.getD_eq_getElem?_getD, List.getElem?_eq_getElem (by omega)]
        exact List.getElem_mem _)
      generalize hzz : w.getD (w.length - 1 - k) 0 = z at hd hz
      rw [hd]
      refine ev_if_eq (tgt := 47) (by decide) d_Names_writeTo_31 (fun y => by have := (nI_eq (a := z) (b := 0) (by omega) (by omega)).mp y; omega) (fun _ => ?_)
      refine ev_aload_n (k0 := 1) rfl d_Names_writeTo_34 ?_
      refine cw_bipush 97 d_Names_writeTo_35 rfl ?_
      refine ev_iload (i := 4) rfl d_Names_writeTo_37 ?_
      refine ev_iadd d_Names_writeTo_39 ?_
      refine cw_iconst 1 d_Names_writeTo_40 rfl ?_
      refine ev_isub d_Names_writeTo_41 ?_
      refine ev_i2c d_Names_writeTo_42 ?_
      rw [show ((97 : Int32) + nI z - 1) = nI (96 + z) from by
        rw [show (97 : Int32) = nI 97 from rfl, nI_add, show (1 : Int32) = nI 1 from rfl, nI_sub (by omega)]
        congr 1
        omega, i2c9 _ (by omega)]
      have hlen : (l ++ lts (w.take (w.length - (k + 1)))).length + 1 ≤ 36 := by
        rw [List.length_append, lts_len, List.length_take]
        omega
      refine Ev.room (mc := 1 + k) (ms := 72 + 72 * k) (ev_appC (B := 36) hb lj_Names_29_1 (by omega) hlen rfl d_Names_writeTo_43 (fun M' hb' => ?_)) (by omega) (by omega)
      refine ev_pop rfl d_Names_writeTo_46 ?_
      refine hend (b + 1) M' (hb'.at ?_) (Nat.le_refl _) _
      rw [show w.length - k = w.length - (k + 1) + 1 by omega, lts_snoc (by omega), show w.length - (k + 1) = w.length - 1 - k by omega, hzz, List.append_assoc]
    · have hz : e5 w / 32 ^ k = 0 := Nat.div_eq_of_lt (Nat.lt_of_lt_of_le (fb_lt (b := 32) (by omega) wl) (Nat.pow_le_pow_right (by omega) (by omega)))
      rw [hz]
      refine ev_if_eq (tgt := 47) (by decide) d_Names_writeTo_31 (fun _ => ?_) (fun y => absurd rfl y)
      refine Ev.room (mc := k) (ms := 72 * k) (hend b (G1, nx1) (hb.at ?_) (by omega) _) (by omega) (by omega)
      rw [show w.length - k = 0 by omega, show w.length - (k + 1) = 0 by omega]
theorem M_writeTo (d : Nat) {b : Nat} {M : RM} {x : Int32} {t : List Nat} (hv : vc 3 j) (hG : LM vc 0 535 μ F G0) (hn : 535 ≤ n0) (hx : NX μ j x t) (hb : BI 36 G0 n0 o b l M) (hl : l.length + 6 ≤ 36) : Mt g (d + 5) m_Names_writeTo [.inr (0, off 3 j), .inr (0, o), .inl (.int x)] M 6 432 (fun r M' => r = rV ∧ BI 36 G0 n0 o (b + 6) (l ++ t) M') := by
  obtain ⟨c, n, w, rfl, hc, hn8, h1, hw, hcode, rfl⟩ := hx
  obtain ⟨G1, nx1⟩ := M
  have hG1 : LM vc 0 535 μ G1 G1 := hb.lm hn hG
  refine Mt.of9 [some (.inr (0, off 3 j)), some (.inr (0, o)), some (.inl (.int (nI c))), none, none] (by decide +kernel) rfl rfl rfl rfl ?_
  refine ev_aload_n (k0 := 0) rfl d_Names_writeTo_0 ?_
  refine ev_iload_n (k0 := 2) rfl d_Names_writeTo_1 ?_
  have hh : f_Names_has j (nI c) μ = some 1 := by
    unfold f_Names_has
    rw [if_neg (show ¬ nI c < 0 from nI_nlt (b := 0) (by omega) (by omega)), h1, if_neg (nI_ge hc (by omega))]
  refine Ev.z9 (cv_V (d := d + 4) [.inl (.int (nI c))] hG1 hv rfl lk_Names_25 (w_Names_has (d + 4) hv hG1 hh) rfl rfl d_Names_writeTo_2 (aft_ro ?_))
  refine ev_if_ne (tgt := 9) (by decide) d_Names_writeTo_5 (fun _ => ?_) (fun z => absurd z (by decide))
  refine cw_bipush 25 d_Names_writeTo_9 rfl ?_
  refine cw_istoreN_n 3 (nI (5 * 6) - 5) (by decide) [some (.inr (0, off 3 j)), some (.inr (0, o)), some (.inl (.int (nI c))), some (.inl (.int (nI (5 * 6) - 5))), none] d_Names_writeTo_11 rfl rfl rfl ?_
  exact wt_loop d hv hG hn (by omega) hw hcode hl 6 b (G1, nx1) (Nat.le_refl _) (hb.at (by
    have h6 := hw.2.1
    rw [show w.length - 6 = 0 by omega]
    exact (List.append_nil _).symm))
end Name
/-! The class's output: writeProphecy, writeQueue, outputByte. -/
/-- what writing has made: the output's String, 12.12 names it -/
def pWr (G : RG) (nx b : Nat) (μ : Mem) (tx : List Nat) : RO → RM → Prop := fun r M' => r = rI (nI tx.length) ∧ ∃ s, nx ≤ s ∧ s + 2 = M'.2 ∧ s ≤ nx + b ∧ LM vc 0 535 (st3 μ 12 0 12 (nI s)) M'.1 M'.1 ∧ STo M'.1 s (s + 1) tx.length (ltx tx) ∧ ∀ q, 535 ≤ q → q < nx → M'.1 q = G q
theorem fld_out {s : Nat} (h : s < 2 ^ 31) : fld 12 0 12 (nI s) = .inr (0, s) := by
  show (if nI s < 0 then (.inr (1, 0) : RV) else .inr (0, (nI s).toNatClampNeg)) = _
  rw [if_neg (show ¬ nI s < 0 from nI_nlt (b := 0) (by omega) (by omega)), nI_clamp h]
section Output
variable {g : GL} {F G : RG} {nx : Nat} {μ : Mem}
/-- toString, output =, return output.length() -/
theorem wr_end {B d : Nat} {mi : MI} {pc : Nat} {ls : List (Option RV)} {b o n0 : Nat} {l : List Nat} {M : RM} (hcls : mi.1.cls = "ProphecyShop") (hret : mi.2.2.2.1 = some .int) (hG : LM vc 0 535 μ F G) (hn : 548 ≤ n0) (hb : BI B G n0 o b l M) (hb2 : n0 + b < 2 ^ 31) (h0 : ls[0]? = some (some (.inr (0, off 12 0)))) (d1 : decode mi.2.1 pc = .ok (.invokevirtual 341, 3)) (d2 : decode mi.2.1 (pc + 3) = .ok (.putfield 78, 3)) (d3 : decode mi.2.1 (pc + 3 + 3) = .ok (.aload_n 0, 1)) (d4 : decode mi.2.1 (pc + 3 + 3 + 1) = .ok (.getfield 78, 3)) (d5 : decode mi.2.1 (pc + 3 + 3 + 1 + 3) = .ok (.invokevirtual 84, 3)) (d6 : decode mi.2.1 (pc + 3 + 3 + 1 + 3 + 3) = .ok (.ireturn, 1)) : Ev g (d + 6) mi pc ls [.inr (0, o), .inr (0, off 12 0)] M 2 (2 * B + 4) (pWr G n0 b μ l) := by
  have hG1 : LM vc 0 535 μ M.1 M.1 := hb.lm (by omega) hG
  refine Ev.room (mc := 2 + 0) (ms := 2 * B + 4 + 0) (ev_toStr hb (by rw [hcls]; exact lj_ProphecyShop_341_1) rfl d1 (fun G' s hS hs1 hs2 hF => ?_)) (by omega) (by omega)
  have hG2 : LM vc 0 535 μ G' G' := ⟨fun K j hv => (hF _ (by have := (okC.2 K j hv).2; omega)).trans (hG.1 K j hv), fun _ _ => rfl⟩
  refine cv_put (.inr (0, s)) (nI s) hG2 okC v_12 (by rw [hcls]; exact fl_ProphecyShop_78_12) rfl (fld_out (by omega)) (show okv g (.object "java/lang/String") _ from okv_obj) d2 ?_
  intro G3 hG3
  refine ev_aload_n (k0 := 0) h0 d3 ?_
  refine cv_get9 (.inr (0, s)) hG3 v_12 (by rw [hcls]; exact fg_ProphecyShop_78_12) rfl (by rw [st3_ua, ua_S]; exact fld_out (by omega)) d4 ?_
  have hs3 : G3 s = G' s := hG3.2 s (Or.inr (by omega))
  have hs4 : G3 (s + 1) = G' (s + 1) := hG3.2 (s + 1) (Or.inr (by omega))
  obtain ⟨n, f, bf, e1, e2, e3, e4, e5⟩ := id hS
  refine Ev.z9 (ev_invV (d := d + 5) (vs := []) (M := (G3, s + 2)) (r := (0, s)) (ci := 0) (hs3.trans e1) (by rw [hcls]; exact lj_ProphecyShop_84_0) (M_length (d + 4) (Or.inl rfl) (hs3.trans e1) e2 e3 (show rdM g (G3, s + 2) (0, s + 1) = _ from hs4.trans e4)) rfl (Nat.le_of_ble_eq_true rfl) d5 (aft_ro ?_))
  refine ev_ireturn (st := []) hret rfl d6 ⟨rfl, s, hs1, rfl, hs2, ⟨hG3.1, fun _ _ => rfl⟩, ⟨n, f, bf, hs3.trans e1, e2, e3, hs4.trans e4, e5⟩, fun q q1 q2 => (hG3.2 q (Or.inr q1)).trans (hF q q2)⟩
theorem M_writeProphecy (d : Nat) (hD : DG g) (hG : LM vc 0 535 μ F G) (hn : 548 ≤ nx) (hn2 : nx + 60 < 2 ^ 31) {x : Int32} {s q : Nat} {tx : List Nat} (hw : f_P_prophecyWith x μ = some q) (hp : PTX μ s q tx) : Mt g (d + 6) m_P_writeProphecy [.inr (0, off 12 0), .inl (.int x)] (G, nx) 40 1906 (pWr G nx 40 μ tx) := by
  obtain ⟨t1, t2, t3, t4, t5, tk, hq, hs, hs12, hN1, hN2, hN3, ⟨d1, hd1, hq4, rfl⟩, ⟨d2, hd2, hq5, rfl⟩, hk, rfl⟩ := hp
  have hvq : vc 5 q := by show q < 288; omega
  have hvs : vc 7 s := hs
  have hcs : (μ 12 0 3).toNatClampNeg = s := by rw [hs12, nI_clamp (by omega)]
  have hset : fld 12 0 3 (μ 12 0 3) = .inr (0, off 7 s) := by
    show (.inr (0, off 7 (μ 12 0 3).toNatClampNeg) : RV) = _
    rw [hcs]
  have ln : ∀ {k x t}, NX μ k x t → t.length ≤ 6 := by
    intro k x t h
    obtain ⟨c, n, w, -, -, -, -, hw, -, rfl⟩ := h
    rw [lts_len]
    exact hw.2.1
  have l1 := ln hN1
  have l2 := ln hN2
  refine Mt.of9 [some (.inr (0, off 12 0)), some (.inl (.int x)), none, none] (by decide +kernel) rfl rfl rfl rfl ?_
  refine ev_aload_n (k0 := 0) rfl d_P_writeProphecy_0 ?_
  refine ev_iload_n (k0 := 1) rfl d_P_writeProphecy_1 ?_
  refine Ev.room (mc := 0 + 39) (ms := 0 + 1900) (cv_V (d := d + 5) [.inl (.int x)] hG v_12 rfl lk_ProphecyShop_198 (w_P_prophecyWith (d + 3) hG hw) rfl rfl d_P_writeProphecy_2 (aft_ro ?_)) (by omega) (by omega)
  refine cw_astoreN_n 2 [some (.inr (0, off 12 0)), some (.inl (.int x)), some (.inr (0, off 5 q)), none] d_P_writeProphecy_5 rfl rfl rfl ?_
  refine Ev.room (mc := 1 + 37 + 1) (ms := 16 + 1880 + 4) (ev_sbNew (B := 36) (d := d + 4) (by decide) cl_ProphecyShop_327 lj_ProphecyShop_329 rfl d_P_writeProphecy_6 d_P_writeProphecy_9 d_P_writeProphecy_10 (fun M1 b1 => ?_)) (by omega) (by omega)
  refine cw_astoreN_n 3 [some (.inr (0, off 12 0)), some (.inl (.int x)), some (.inr (0, off 5 q)), some (.inr (0, nx))] d_P_writeProphecy_13 rfl rfl rfl ?_
  -- the customer's name
  obtain ⟨G1, nx1⟩ := M1
  have g1 : LM vc 0 535 μ G1 G1 := b1.lm (by omega) hG
  refine ev_aload_n (k0 := 0) rfl d_P_writeProphecy_14 ?_
  refine cv_get9 (.inr (0, off 7 s)) g1 v_12 fg_ProphecyShop_35_12 rfl hset d_P_writeProphecy_15 ?_
  refine cv_get9 (.inr (0, off 3 (3 * s + 2))) g1 hvs fg_ProphecyShop_164_7 rfl rfl d_P_writeProphecy_18 ?_
  refine ev_aload_n (k0 := 3) rfl d_P_writeProphecy_21 ?_
  refine ev_aload_n (k0 := 2) rfl d_P_writeProphecy_22 ?_
  refine cv_get9 (.inl (.int (μ 5 q 0))) g1 hvq fg_ProphecyShop_202_5 rfl rfl d_P_writeProphecy_23 ?_
  refine Ev.room (mc := 6 + 31) (ms := 432 + 1448) (cv_V (d := d + 5) [.inr (0, nx), .inl (.int (μ 5 q 0))] g1 (tv_7_7 hvs) rfl lk_ProphecyShop_330 (M_writeTo d (tv_7_7 hvs) hG (by omega) hN1 b1 (by show 0 + 6 ≤ 36; omega)) rfl rfl d_P_writeProphecy_26 ⟨fun v M2 hP => ?_, fun E M2 hP => by obtain ⟨hv, -⟩ := hP; cases hv⟩) (by omega) (by omega)
  obtain ⟨hv, b2⟩ := hP
  cases hv
  rw [List.nil_append] at b2
  refine ev_aload_n (k0 := 3) rfl d_P_writeProphecy_29 ?_
  refine cw_bipush 58 d_P_writeProphecy_30 rfl ?_
  refine Ev.room (mc := 1 + 30) (ms := 72 + 1376) (ev_appC (c := 58) b2 lj_ProphecyShop_334_1 (by omega) (by omega) rfl d_P_writeProphecy_32 (fun M3 b3 => ?_)) (by omega) (by omega)
  refine ev_pop rfl d_P_writeProphecy_35 ?_
  have z3 : (t1 ++ [58]).length ≤ 7 := by rw [List.length_append]; show _ + 1 ≤ _; omega
  -- the sign of a denial
  obtain ⟨G3, nx3⟩ := M3
  have g3 : LM vc 0 535 μ G3 G3 := b3.lm (by omega) hG
  refine ev_aload_n (k0 := 2) rfl d_P_writeProphecy_36 ?_
  refine cv_get9 (.inl (.int (μ 5 q 1))) g3 hvq fg_ProphecyShop_213_5 rfl rfl d_P_writeProphecy_37 ?_
  refine cw_iconst 2 d_P_writeProphecy_40 rfl ?_
  have lk : tk.length ≤ 1 := by rcases hk with ⟨-, rfl⟩ | ⟨-, rfl⟩ <;> simp
  have z4 : ((t1 ++ [58]) ++ tk).length ≤ 8 := by rw [List.length_append]; omega
  have K1 : ∀ M4, BI 36 G nx nx 10 ((t1 ++ [58]) ++ tk) M4 → Ev g (d + 6) m_P_writeProphecy 51 [some (.inr (0, off 12 0)), some (.inl (.int x)), some (.inr (0, off 5 q)), some (.inr (0, nx))] [] M4 29 1304 (pWr G nx 40 μ ((((((((t1 ++ [58] ++ tk) ++ t2) ++ [64]) ++ t3) ++ [32]) ++ digs d1) ++ [45]) ++ digs d2)) := by
    intro M4 b4
    obtain ⟨G4, nx4⟩ := M4
    have g4 : LM vc 0 535 μ G4 G4 := b4.lm (by omega) hG
    refine ev_aload_n (k0 := 0) rfl d_P_writeProphecy_51 ?_
    refine cv_get9 (.inr (0, off 7 s)) g4 v_12 fg_ProphecyShop_35_12 rfl hset d_P_writeProphecy_52 ?_
    refine cv_get9 (.inr (0, off 3 (3 * s))) g4 hvs fg_ProphecyShop_152_7 rfl rfl d_P_writeProphecy_55 ?_
    refine ev_aload_n (k0 := 3) rfl d_P_writeProphecy_58 ?_
    refine ev_aload_n (k0 := 2) rfl d_P_writeProphecy_59 ?_
    refine cv_get9 (.inl (.int (μ 5 q 2))) g4 hvq fg_ProphecyShop_207_5 rfl rfl d_P_writeProphecy_60 ?_
    refine Ev.room (mc := 6 + 23) (ms := 432 + 872) (cv_V (d := d + 5) [.inr (0, nx), .inl (.int (μ 5 q 2))] g4 (tv_7_5 hvs) rfl lk_ProphecyShop_330 (M_writeTo d (tv_7_5 hvs) hG (by omega) hN2 b4 (by omega)) rfl rfl d_P_writeProphecy_63 ⟨fun v M5 hP => ?_, fun E M5 hP => by obtain ⟨hv, -⟩ := hP; cases hv⟩) (by omega) (by omega)
    obtain ⟨hv, b5⟩ := hP
    cases hv
    have z5 : (((t1 ++ [58]) ++ tk) ++ t2).length ≤ 14 := by rw [List.length_append]; omega
    refine ev_aload_n (k0 := 3) rfl d_P_writeProphecy_66 ?_
    refine cw_bipush 64 d_P_writeProphecy_67 rfl ?_
    refine Ev.room (mc := 1 + 22) (ms := 72 + 800) (ev_appC (c := 64) b5 lj_ProphecyShop_334_1 (by omega) (by omega) rfl d_P_writeProphecy_69 (fun M6 b6 => ?_)) (by omega) (by omega)
    refine ev_pop rfl d_P_writeProphecy_72 ?_
    generalize hl6 : (((t1 ++ [58]) ++ tk) ++ t2) ++ [64] = l6 at b6 ⊢
    have z6 : l6.length ≤ 15 := by rw [← hl6, List.length_append]; show _ + 1 ≤ _; omega
    -- the place
    have K2 : ∀ M7, BI 36 G nx nx 23 (l6 ++ t3) M7 → t3.length ≤ 6 → Ev g (d + 6) m_P_writeProphecy 106 [some (.inr (0, off 12 0)), some (.inl (.int x)), some (.inr (0, off 5 q)), some (.inr (0, nx))] [] M7 16 368 (pWr G nx 40 μ ((((l6 ++ t3) ++ [32]) ++ digs d1) ++ [45] ++ digs d2)) := by
      intro M7 b7 h3
      have z7 : (l6 ++ t3).length ≤ 21 := by rw [List.length_append]; omega
      generalize l6 ++ t3 = l7 at b7 z7 ⊢
      refine ev_aload_n (k0 := 3) rfl d_P_writeProphecy_106 ?_
      refine cw_bipush 32 d_P_writeProphecy_107 rfl ?_
      refine Ev.room (mc := 1 + 15) (ms := 72 + 296) (ev_appC (c := 32) b7 lj_ProphecyShop_334_1 (by omega) (by omega) rfl d_P_writeProphecy_109 (fun M8 b8 => ?_)) (by omega) (by omega)
      obtain ⟨G8, nx8⟩ := M8
      have g8 : LM vc 0 535 μ G8 G8 := b8.lm (by omega) hG
      have z8 : (l7 ++ [32]).length ≤ 22 := by rw [List.length_append]; show _ + 1 ≤ _; omega
      refine ev_aload_n (k0 := 2) rfl d_P_writeProphecy_112 ?_
      refine cv_get9 (.inl (.int (nI d1))) g8 hvq fg_ProphecyShop_216_5 rfl (by rw [hq4]; rfl) d_P_writeProphecy_113 ?_
      have y1 := dl20 hd1
      have y2 := dl20 hd2
      refine Ev.room (mc := 1 + 14) (ms := 72 + 224) (ev_appI hD b8 lj_ProphecyShop_338_1 (by omega) (by omega) rfl d_P_writeProphecy_116 (fun M9 b9 => ?_)) (by omega) (by omega)
      have z9 : ((l7 ++ [32]) ++ digs d1).length ≤ 27 := by rw [List.length_append, digs_len]; omega
      refine cw_bipush 45 d_P_writeProphecy_119 rfl ?_
      refine Ev.room (mc := 1 + 13) (ms := 72 + 152) (ev_appC (c := 45) b9 lj_ProphecyShop_334_1 (by omega) (by omega) rfl d_P_writeProphecy_121 (fun M10 b10 => ?_)) (by omega) (by omega)
      obtain ⟨G10, nx10⟩ := M10
      have g10 : LM vc 0 535 μ G10 G10 := b10.lm (by omega) hG
      have z10 : (((l7 ++ [32]) ++ digs d1) ++ [45]).length ≤ 28 := by rw [List.length_append]; show _ + 1 ≤ _; omega
      refine ev_aload_n (k0 := 2) rfl d_P_writeProphecy_124 ?_
      refine cv_get9 (.inl (.int (nI d2))) g10 hvq fg_ProphecyShop_219_5 rfl (by rw [hq5]; rfl) d_P_writeProphecy_125 ?_
      refine Ev.room (mc := 1 + 12) (ms := 72 + 80) (ev_appI hD b10 lj_ProphecyShop_338_1 (by omega) (by omega) rfl d_P_writeProphecy_128 (fun M11 b11 => ?_)) (by omega) (by omega)
      refine ev_pop rfl d_P_writeProphecy_131 ?_
      refine ev_aload_n (k0 := 0) rfl d_P_writeProphecy_132 ?_
      refine ev_aload_n (k0 := 3) rfl d_P_writeProphecy_133 ?_
      exact Ev.room (wr_end (d := d) rfl rfl hG hn (b11.le (b' := 40) (by omega)) (by omega) rfl d_P_writeProphecy_134 d_P_writeProphecy_137 d_P_writeProphecy_140 d_P_writeProphecy_141 d_P_writeProphecy_144 d_P_writeProphecy_147) (by omega) (by omega)
    obtain ⟨G6, nx6⟩ := M6
    have g6 : LM vc 0 535 μ G6 G6 := b6.lm (by omega) hG
    refine ev_aload_n (k0 := 2) rfl d_P_writeProphecy_73 ?_
    refine cv_get9 (.inl (.int (μ 5 q 1))) g6 hvq fg_ProphecyShop_213_5 rfl rfl d_P_writeProphecy_74 ?_
    refine cw_iconst 1 d_P_writeProphecy_77 rfl ?_
    refine ev_icmp_ne (tgt := 91) (by decide) d_P_writeProphecy_78 (fun c => ?_) (fun c => ?_)
    · rcases hN3 with ⟨e, -⟩ | ⟨-, hN3⟩
      · exact absurd e c
      · refine ev_aload_n (k0 := 0) rfl d_P_writeProphecy_91 ?_
        refine cv_get9 (.inr (0, off 7 s)) g6 v_12 fg_ProphecyShop_35_12 rfl hset d_P_writeProphecy_92 ?_
        refine cv_get9 (.inr (0, off 3 (3 * s + 1))) g6 hvs fg_ProphecyShop_161_7 rfl rfl d_P_writeProphecy_95 ?_
        refine ev_aload_n (k0 := 3) rfl d_P_writeProphecy_98 ?_
        refine ev_aload_n (k0 := 2) rfl d_P_writeProphecy_99 ?_
        refine cv_get9 (.inl (.int (μ 5 q 3))) g6 hvq fg_ProphecyShop_210_5 rfl rfl d_P_writeProphecy_100 ?_
        refine Ev.room (mc := 6 + 16) (ms := 432 + 368) (cv_V (d := d + 5) [.inr (0, nx), .inl (.int (μ 5 q 3))] g6 (tv_7_6 hvs) rfl lk_ProphecyShop_330 (M_writeTo d (tv_7_6 hvs) hG (by omega) hN3 b6 (by omega)) rfl rfl d_P_writeProphecy_103 ⟨fun v M7 hP => ?_, fun E M7 hP => ?_⟩) (by omega) (by omega)
        · obtain ⟨hv, b7⟩ := hP
          cases hv
          exact K2 M7 b7 (ln hN3)
        · obtain ⟨hv, -⟩ := hP
          cases hv
    · rcases hN3 with ⟨-, e⟩ | ⟨e, -⟩
      · subst e
        refine ev_aload_n (k0 := 3) rfl d_P_writeProphecy_81 ?_
        refine cw_bipush 42 d_P_writeProphecy_82 rfl ?_
        refine Ev.room (mc := 1 + 21) (ms := 72 + 728) (ev_appC (c := 42) b6 lj_ProphecyShop_334_1 (by omega) (by omega) rfl d_P_writeProphecy_84 (fun M7 b7 => ?_)) (by omega) (by omega)
        refine ev_pop rfl d_P_writeProphecy_87 ?_
        refine ev_goto (tgt := 106) (by decide) d_P_writeProphecy_88 ?_
        exact Ev.room (K2 M7 (b7.le (by omega)) (by simp)) (by omega) (by omega)
      · exact absurd c e
  refine ev_icmp_ne (tgt := 51) (by decide) d_P_writeProphecy_41 (fun c => ?_) (fun c => ?_)
  · rcases hk with ⟨e, -⟩ | ⟨-, e⟩
    · exact absurd e c
    · subst e
      refine Ev.room (K1 (G3, nx3) ((b3.le (by omega)).at (List.append_nil _).symm)) (by omega) (by omega)
  · rcases hk with ⟨-, e⟩ | ⟨e, -⟩
    · subst e
      refine ev_aload_n (k0 := 3) rfl d_P_writeProphecy_44 ?_
      refine cw_bipush 33 d_P_writeProphecy_45 rfl ?_
      refine Ev.room (mc := 1 + 29) (ms := 72 + 1304) (ev_appC (c := 33) b3 lj_ProphecyShop_334_1 (by omega) (by omega) rfl d_P_writeProphecy_47 (fun M4 b4 => ?_)) (by omega) (by omega)
      refine ev_pop rfl d_P_writeProphecy_50 ?_
      exact K1 M4 (b4.le (by omega))
    · exact absurd c e
end Output

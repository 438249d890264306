/-! The law's acts: a sale. -/
def OF (b : Nat) (G G' : RG) : Prop := ∀ q, 535 ≤ q → (q < b ∨ b + 21 ≤ q) → G' q = G q
theorem OF.rf {b : Nat} {G : RG} : OF b G G := fun _ _ _ => rfl
theorem OF.tr {b : Nat} {G G' G'' : RG} (h : OF b G G') (h' : OF b G' G'') : OF b G G'' := fun q a c => (h' q a c).trans (h q a c)
/-- Own's cells are written: the shop's stand -/
theorem own_vc {b : Nat} {F G : RG} {μ u : Mem} (hG : LM vc 0 535 μ F F) (hO : LM (vo b) b (b + 21) u F G) (hb : 535 ≤ b) : LM vc 0 535 μ G G := ⟨fun K j hv => (hO.2 _ (Or.inl (by have := (okC.2 K j hv).2; omega))).trans (hG.1 K j hv), fun _ _ => rfl⟩
theorem own_of {b : Nat} {F G : RG} {u : Mem} (hO : LM (vo b) b (b + 21) u F G) : OF b F G := fun q _ c => hO.2 q c
/-- the shop's cells are written: Own's stand -/
theorem vc_own {b : Nat} {F' G G' : RG} {μ u : Mem} (hO : LM (vo b) b (b + 21) u F' G) (hG : LM vc 0 535 μ G G') (hb : 535 ≤ b) : LM (vo b) b (b + 21) u G' G' := ⟨fun K j hv => (hG.2 _ (Or.inr (by have := okO.2 K j hv; omega))).trans (hO.1 K j hv), fun _ _ => rfl⟩
theorem vc_of {b : Nat} {G G' : RG} {μ : Mem} (hG : LM vc 0 535 μ G G') : OF b G G' := fun q a _ => hG.2 q (Or.inr a)
/-- what an act returns, and what it leaves -/
def pAct (G : RG) (nx b : Nat) (c0 : Int32) (μ : Mem) (s E P C O h K dd : Nat) (ps : Nat → Nat × Mem) : RO → RM → Prop := fun r M' => M'.2 = nx ∧ OF b G M'.1 ∧ ((r = rI (-1) ∧ M'.1 = G) ∨ (r = rI 1 ∧ ∃ μ' u' n' w' t' dd', LM vc 0 535 μ' M'.1 M'.1 ∧ LM (vo b) b (b + 21) u' M'.1 M'.1 ∧ QS c0 μ' 0 s b u' E P C O n' w' t' dd' ∧ HIS c0 μ' s E P C O (if h < 8 then h + 1 else 8) (K + 1) ps ∧ μ' 12 = μ 12 ∧ dd' ≤ dd + 60))
section Sells
variable {g : GL} {G : RG} {c0 : Int32} {μ v u : Mem} {s b b0 E P C O n w t dd nx h K : Nat} {ps : Nat → Nat × Mem}
set_option maxRecDepth 100000 in
set_option maxHeartbeats 2000000 in
theorem M_sells (d : Nat) (hG : LM vc 0 535 μ G G) (hO : LM (vo b) b (b + 21) u G G) (hb : 535 ≤ b) (hH : HIS c0 μ s E P C O h K ps) (hQo : QS c0 μ 0 s b0 v E P C O n w t dd) (hps : ps K = (b0, v)) (hQ : QS c0 μ 0 s b u E P C O n w t dd) (hdd : dd ≤ 3100) (hE1 : 1 ≤ E) (hP1 : 1 ≤ P) {c vv ww : Nat} (hc : c < C) (hvv : vv < 10000) (hww : ww < 10000) : Mt g (d + 7) m_PL_sells [.inr (0, off 12 0), .inr (0, off 60 b), .inl (.int (nI c)), .inl (.int (nI vv)), .inl (.int (nI ww))] (G, nx) 0 0 (pAct G nx b c0 μ s E P C O h K dd ps) := by
  obtain ⟨hs2, hE6, hP6, hC8, hO5, ⟨-, a6⟩, ⟨-, a7⟩, ⟨-, a8⟩, ⟨-, a9⟩, -⟩ := hQ.2.1
  obtain ⟨hn, hw, ht, -, -, a5, -, -, a10, -, a12, -, a11, -⟩ := hQ.2.2.1.1
  rw [ro_0 (by omega)] at a5 a6 a7 a10
  refine Mt.of9 [some (.inr (0, off 12 0)), some (.inr (0, off 60 b)), some (.inl (.int (nI c))), some (.inl (.int (nI vv))), some (.inl (.int (nI ww))), none, none, none, none, none, none, none] (by decide +kernel) rfl rfl rfl rfl ?_
  refine ev_iload_n (k0 := 3) rfl d_PL_sells_0 ?_
  refine cw_iconst 3 d_PL_sells_1 rfl ?_
  refine ev_irem (by decide) d_PL_sells_2 ?_
  rw [show nI vv - nI vv / 3 * 3 = nI (vv % 3) from rem_nI (d := 3) (by omega) (by omega) (by omega)]
  obtain ⟨so, hso, gso⟩ : ∃ z, z = vv % 3 ∧ z < 3 := ⟨_, rfl, Nat.mod_lt _ (by decide)⟩
  rw [← hso]
  refine cw_istoreN 5 (nI so) rfl [some (.inr (0, off 12 0)), some (.inr (0, off 60 b)), some (.inl (.int (nI c))), some (.inl (.int (nI vv))), some (.inl (.int (nI ww))), some (.inl (.int (nI so))), none, none, none, none, none, none] d_PL_sells_3 rfl rfl rfl ?_
  refine ev_iload_n (k0 := 3) rfl d_PL_sells_5 ?_
  refine cw_iconst 3 d_PL_sells_6 rfl ?_
  refine ev_idiv (by decide) d_PL_sells_7 ?_
  rw [show nI vv / 3 = nI (vv / 3) from pk_div (d := 3) (by omega) (by omega) (by omega)]
  refine ev_aload_n (k0 := 1) rfl d_PL_sells_8 ?_
  refine cv_getN (.inl (.int (u 60 b 6))) hO vo_0 gn_165 rfl rfl d_PL_sells_9 ?_
  rw [a6]
  refine ev_irem (ne_0 (by omega) (by omega)) d_PL_sells_12 ?_
  rw [show nI (vv / 3) - nI (vv / 3) / (nI E) * (nI E) = nI ((vv / 3) % E) from rem_nI (d := E) (by omega) (by omega) (by omega)]
  obtain ⟨ev, hev, gev⟩ : ∃ z, z = vv / 3 % E ∧ z < E := ⟨_, rfl, Nat.mod_lt _ (by omega)⟩
  rw [← hev]
  refine cw_istoreN 6 (nI ev) rfl [some (.inr (0, off 12 0)), some (.inr (0, off 60 b)), some (.inl (.int (nI c))), some (.inl (.int (nI vv))), some (.inl (.int (nI ww))), some (.inl (.int (nI so))), some (.inl (.int (nI ev))), none, none, none, none, none] d_PL_sells_13 rfl rfl rfl ?_
  refine ev_iload_n (k0 := 3) rfl d_PL_sells_15 ?_
  refine cw_bipush 18 d_PL_sells_16 rfl ?_
  refine ev_idiv (by decide) d_PL_sells_18 ?_
  rw [show nI vv / 18 = nI (vv / 18) from pk_div (d := 18) (by omega) (by omega) (by omega)]
  refine ev_aload_n (k0 := 1) rfl d_PL_sells_19 ?_
  refine cv_getN (.inl (.int (u 60 b 7))) hO vo_0 gn_162 rfl rfl d_PL_sells_20 ?_
  rw [a7]
  refine ev_irem (ne_0 (by omega) (by omega)) d_PL_sells_23 ?_
  rw [show nI (vv / 18) - nI (vv / 18) / (nI P) * (nI P) = nI ((vv / 18) % P) from rem_nI (d := P) (by omega) (by omega) (by omega)]
  obtain ⟨at9, hat9, gat9⟩ : ∃ z, z = vv / 18 % P ∧ z < P := ⟨_, rfl, Nat.mod_lt _ (by omega)⟩
  rw [← hat9]
  refine cw_istoreN 7 (nI at9) rfl [some (.inr (0, off 12 0)), some (.inr (0, off 60 b)), some (.inl (.int (nI c))), some (.inl (.int (nI vv))), some (.inl (.int (nI ww))), some (.inl (.int (nI so))), some (.inl (.int (nI ev))), some (.inl (.int (nI at9))), none, none, none, none] d_PL_sells_24 rfl rfl rfl ?_
  refine ev_iload (i := 4) rfl d_PL_sells_26 ?_
  refine cw_iconst 4 d_PL_sells_28 rfl ?_
  refine ev_irem (by decide) d_PL_sells_29 ?_
  rw [show nI ww - nI ww / 4 * 4 = nI (ww % 4) from rem_nI (d := 4) (by omega) (by omega) (by omega)]
  obtain ⟨de, hde, gde⟩ : ∃ z, z = ww % 4 ∧ z < 4 := ⟨_, rfl, Nat.mod_lt _ (by decide)⟩
  rw [← hde]
  refine cw_istoreN 8 (nI de) rfl [some (.inr (0, off 12 0)), some (.inr (0, off 60 b)), some (.inl (.int (nI c))), some (.inl (.int (nI vv))), some (.inl (.int (nI ww))), some (.inl (.int (nI so))), some (.inl (.int (nI ev))), some (.inl (.int (nI at9))), some (.inl (.int (nI de))), none, none, none] d_PL_sells_30 rfl rfl rfl ?_
  refine cw_iconst 1 d_PL_sells_32 rfl ?_
  refine ev_iload (i := 4) rfl d_PL_sells_33 ?_
  refine cw_iconst 4 d_PL_sells_35 rfl ?_
  refine ev_idiv (by decide) d_PL_sells_36 ?_
  rw [show nI ww / 4 = nI (ww / 4) from pk_div (d := 4) (by omega) (by omega) (by omega)]
  refine cw_bipush 12 d_PL_sells_37 rfl ?_
  refine ev_irem (by decide) d_PL_sells_39 ?_
  rw [show nI (ww / 4) - nI (ww / 4) / 12 * 12 = nI ((ww / 4) % 12) from rem_nI (d := 12) (by omega) (by omega) (by omega)]
  refine ev_iadd d_PL_sells_40 ?_
  rw [show (1 : Int32) + nI ((ww / 4) % 12) = nI (1 + ((ww / 4) % 12)) from nI_add 1 ((ww / 4) % 12)]
  obtain ⟨le, hle, gle⟩ : ∃ z, z = 1 + ww / 4 % 12 ∧ 1 ≤ z ∧ z ≤ 12 := ⟨_, rfl, by have := Nat.mod_lt (ww / 4) (show 0 < 12 by decide); omega⟩
  rw [← hle]
  refine cw_istoreN 9 (nI le) rfl [some (.inr (0, off 12 0)), some (.inr (0, off 60 b)), some (.inl (.int (nI c))), some (.inl (.int (nI vv))), some (.inl (.int (nI ww))), some (.inl (.int (nI so))), some (.inl (.int (nI ev))), some (.inl (.int (nI at9))), some (.inl (.int (nI de))), some (.inl (.int (nI le))), none, none] d_PL_sells_41 rfl rfl rfl ?_
  refine cw_iconst 1 d_PL_sells_43 rfl ?_
  refine ev_iload (i := 4) rfl d_PL_sells_44 ?_
  refine cw_bipush 48 d_PL_sells_46 rfl ?_
  refine ev_idiv (by decide) d_PL_sells_48 ?_
  rw [show nI ww / 48 = nI (ww / 48) from pk_div (d := 48) (by omega) (by omega) (by omega)]
  refine cw_bipush 60 d_PL_sells_49 rfl ?_
  refine ev_irem (by decide) d_PL_sells_51 ?_
  rw [show nI (ww / 48) - nI (ww / 48) / 60 * 60 = nI ((ww / 48) % 60) from rem_nI (d := 60) (by omega) (by omega) (by omega)]
  refine ev_iadd d_PL_sells_52 ?_
  rw [show (1 : Int32) + nI ((ww / 48) % 60) = nI (1 + ((ww / 48) % 60)) from nI_add 1 ((ww / 48) % 60)]
  obtain ⟨pr, hpr, gpr⟩ : ∃ z, z = 1 + ww / 48 % 60 ∧ 1 ≤ z ∧ z ≤ 60 := ⟨_, rfl, by have := Nat.mod_lt (ww / 48) (show 0 < 60 by decide); omega⟩
  rw [← hpr]
  refine cw_istoreN 10 (nI pr) rfl [some (.inr (0, off 12 0)), some (.inr (0, off 60 b)), some (.inl (.int (nI c))), some (.inl (.int (nI vv))), some (.inl (.int (nI ww))), some (.inl (.int (nI so))), some (.inl (.int (nI ev))), some (.inl (.int (nI at9))), some (.inl (.int (nI de))), some (.inl (.int (nI le))), some (.inl (.int (nI pr))), none] d_PL_sells_53 rfl rfl rfl ?_
  refine ev_aload_n (k0 := 1) rfl d_PL_sells_55 ?_
  refine cv_getN (.inl (.int (u 60 b 10))) hO vo_0 gn_190 rfl rfl d_PL_sells_56 ?_
  rw [a10]
  refine cw_bipush 24 d_PL_sells_59 rfl ?_
  have KN : Ev g (d + 7) m_PL_sells 75 [some (.inr (0, off 12 0)), some (.inr (0, off 60 b)), some (.inl (.int (nI c))), some (.inl (.int (nI vv))), some (.inl (.int (nI ww))), some (.inl (.int (nI so))), some (.inl (.int (nI ev))), some (.inl (.int (nI at9))), some (.inl (.int (nI de))), some (.inl (.int (nI le))), some (.inl (.int (nI pr))), none] [] (G, nx) 0 0 (pAct G nx b c0 μ s E P C O h K dd ps) := by
    refine cw_iconst (-1) d_PL_sells_75 rfl ?_
    exact ev_ireturn (st := []) rfl rfl d_PL_sells_76 ⟨rfl, OF.rf, Or.inl ⟨rfl, rfl⟩⟩
  have KS : n < 24 → ¬ u 61 b c < nI pr → Ev g (d + 7) m_PL_sells 77 [some (.inr (0, off 12 0)), some (.inr (0, off 60 b)), some (.inl (.int (nI c))), some (.inl (.int (nI vv))), some (.inl (.int (nI ww))), some (.inl (.int (nI so))), some (.inl (.int (nI ev))), some (.inl (.int (nI at9))), some (.inl (.int (nI de))), some (.inl (.int (nI le))), some (.inl (.int (nI pr))), none] [] (G, nx) 0 0 (pAct G nx b c0 μ s E P C O h K dd ps) := by
    intro hn24 hpu
    refine ev_aload_n (k0 := 1) rfl d_PL_sells_77 ?_
    refine cv_getN (.inl (.int (u 60 b 10))) hO vo_0 gn_190 rfl rfl d_PL_sells_78 ?_
    rw [a10]
    refine cw_istoreN 11 (nI n) rfl [some (.inr (0, off 12 0)), some (.inr (0, off 60 b)), some (.inl (.int (nI c))), some (.inl (.int (nI vv))), some (.inl (.int (nI ww))), some (.inl (.int (nI so))), some (.inl (.int (nI ev))), some (.inl (.int (nI at9))), some (.inl (.int (nI de))), some (.inl (.int (nI le))), some (.inl (.int (nI pr))), some (.inl (.int (nI n)))] d_PL_sells_81 rfl rfl rfl ?_
    refine ev_aload_n (k0 := 1) rfl d_PL_sells_83 ?_
    refine ev_dup rfl d_PL_sells_84 ?_
    refine cv_getN (.inl (.int (u 60 b 10))) hO vo_0 gn_190 rfl rfl d_PL_sells_85 ?_
    rw [a10]
    refine cw_iconst 1 d_PL_sells_88 rfl ?_
    refine ev_iadd d_PL_sells_89 ?_
    rw [show nI n + 1 = nI (n + 1) from nI_add n 1]
    refine cv_putN (.inl (.int (nI (n + 1)))) (nI (n + 1)) hO okO vo_0 pn_190 rfl rfl okv_int d_PL_sells_90 (fun G1 hO1 => ?_)
    generalize hu1 : st3 u 60 b 10 (nI (n + 1)) = u1 at hO1
    refine ev_aload_n (k0 := 1) rfl d_PL_sells_93 ?_
    refine cv_getN (.inr (0, off 68 b)) hO1 vo_0 gn_54 rfl rfl d_PL_sells_94 ?_
    refine ev_iload (i := 11) rfl d_PL_sells_97 ?_
    refine ev_iload_n (k0 := 2) rfl d_PL_sells_99 ?_
    refine cv_iast hO1 okO (voK (by decide) (by decide)) rfl rfl (show inb (nI n) 24 = true from inb_of (by omega) (by omega)) rfl d_PL_sells_100 (fun G2 hO2 => ?_)
    rw [nI_clamp (by omega)] at hO2
    generalize hu2 : st3 u1 68 b n (nI c) = u2 at hO2
    refine ev_aload_n (k0 := 1) rfl d_PL_sells_101 ?_
    refine cv_getN (.inr (0, off 69 b)) hO2 vo_0 gn_74 rfl rfl d_PL_sells_102 ?_
    refine ev_iload (i := 11) rfl d_PL_sells_105 ?_
    refine ev_iload (i := 6) rfl d_PL_sells_107 ?_
    refine cv_iast hO2 okO (voK (by decide) (by decide)) rfl rfl (show inb (nI n) 24 = true from inb_of (by omega) (by omega)) rfl d_PL_sells_109 (fun G3 hO3 => ?_)
    rw [nI_clamp (by omega)] at hO3
    generalize hu3 : st3 u2 69 b n (nI ev) = u3 at hO3
    refine ev_aload_n (k0 := 1) rfl d_PL_sells_110 ?_
    refine cv_getN (.inr (0, off 70 b)) hO3 vo_0 gn_77 rfl rfl d_PL_sells_111 ?_
    refine ev_iload (i := 11) rfl d_PL_sells_114 ?_
    refine ev_iload (i := 5) rfl d_PL_sells_116 ?_
    refine cw_iconst 1 d_PL_sells_118 rfl ?_
    rcases (show so = 0 ∨ so = 1 ∨ so = 2 by omega) with z | z | z
    · subst z
      refine ev_icmp_ne (tgt := 126) (by decide) d_PL_sells_119 (fun _ => ?_) (fun c => absurd c (by decide))
      refine ev_iload (i := 7) rfl d_PL_sells_126 ?_
      refine cv_iast hO3 okO (voK (by decide) (by decide)) rfl rfl (show inb (nI n) 24 = true from inb_of (by omega) (by omega)) rfl d_PL_sells_128 (fun G4 hO4 => ?_)
      rw [nI_clamp (by omega)] at hO4
      generalize hu4 : st3 u3 70 b n (nI at9) = u4 at hO4
      refine ev_aload_n (k0 := 1) rfl d_PL_sells_129 ?_
      refine cv_getN (.inr (0, off 78 b)) hO4 vo_0 gn_64 rfl rfl d_PL_sells_130 ?_
      refine ev_iload (i := 11) rfl d_PL_sells_133 ?_
      refine ev_iload (i := 5) rfl d_PL_sells_135 ?_
      refine cw_iconst 2 d_PL_sells_137 rfl ?_
      refine ev_icmp_ne (tgt := 145) (by decide) d_PL_sells_138 (fun _ => ?_) (fun c => absurd c (by decide))
      refine cw_iconst 0 d_PL_sells_145 rfl ?_
      refine cv_zast hO4 okO (voK (by decide) (by decide)) rfl rfl (show inb (nI n) 24 = true from inb_of (by omega) (by omega)) rfl rfl d_PL_sells_146 (fun G5 hO5 => ?_)
      rw [nI_clamp (by omega)] at hO5
      generalize hu5 : st3 u4 78 b n 0 = u5 at hO5
      have r5 : u5 60 b 5 = nI dd := by rw [← hu5, st3_K (by decide), ← hu4, st3_K (by decide), ← hu3, st3_K (by decide), ← hu2, st3_K (by decide), ← hu1, st3_ua, ua_N (by decide)]; exact a5
      refine ev_aload_n (k0 := 1) rfl d_PL_sells_147 ?_
      refine cv_getN (.inr (0, off 71 b)) hO5 vo_0 gn_84 rfl rfl d_PL_sells_148 ?_
      refine ev_iload (i := 11) rfl d_PL_sells_151 ?_
      refine ev_aload_n (k0 := 1) rfl d_PL_sells_153 ?_
      refine cv_getN (.inl (.int (u5 60 b 5))) hO5 vo_0 gn_151 rfl rfl d_PL_sells_154 ?_
      rw [r5]
      refine ev_iload (i := 8) rfl d_PL_sells_157 ?_
      refine ev_iadd d_PL_sells_159 ?_
      rw [show nI dd + nI de = nI (dd + de) from nI_add dd de]
      refine cv_iast hO5 okO (voK (by decide) (by decide)) rfl rfl (show inb (nI n) 24 = true from inb_of (by omega) (by omega)) rfl d_PL_sells_160 (fun G6 hO6 => ?_)
      rw [nI_clamp (by omega)] at hO6
      generalize hu6 : st3 u5 71 b n (nI (dd + de)) = u6 at hO6
      have r5 : u6 60 b 5 = nI dd := by rw [← hu6, st3_K (by decide), ← hu5, st3_K (by decide), ← hu4, st3_K (by decide), ← hu3, st3_K (by decide), ← hu2, st3_K (by decide), ← hu1, st3_ua, ua_N (by decide)]; exact a5
      refine ev_aload_n (k0 := 1) rfl d_PL_sells_161 ?_
      refine cv_getN (.inr (0, off 72 b)) hO6 vo_0 gn_90 rfl rfl d_PL_sells_162 ?_
      refine ev_iload (i := 11) rfl d_PL_sells_165 ?_
      refine ev_aload_n (k0 := 1) rfl d_PL_sells_167 ?_
      refine cv_getN (.inl (.int (u6 60 b 5))) hO6 vo_0 gn_151 rfl rfl d_PL_sells_168 ?_
      rw [r5]
      refine ev_iload (i := 8) rfl d_PL_sells_171 ?_
      refine ev_iadd d_PL_sells_173 ?_
      rw [show nI dd + nI de = nI (dd + de) from nI_add dd de]
      refine ev_iload (i := 9) rfl d_PL_sells_174 ?_
      refine ev_iadd d_PL_sells_176 ?_
      rw [show nI (dd + de) + nI le = nI ((dd + de) + le) from nI_add (dd + de) le]
      refine cw_iconst 1 d_PL_sells_177 rfl ?_
      refine ev_isub d_PL_sells_178 ?_
      rw [show nI (dd + de + le) - 1 = nI (dd + de + le - 1) from nI_sub (a := dd + de + le) (b := 1) (by omega)]
      refine cv_iast hO6 okO (voK (by decide) (by decide)) rfl rfl (show inb (nI n) 24 = true from inb_of (by omega) (by omega)) rfl d_PL_sells_179 (fun G7 hO7 => ?_)
      rw [nI_clamp (by omega)] at hO7
      generalize hu7 : st3 u6 72 b n (nI (dd + de + le - 1)) = u7 at hO7
      refine ev_aload_n (k0 := 1) rfl d_PL_sells_180 ?_
      refine cv_getN (.inr (0, off 73 b)) hO7 vo_0 gn_196 rfl rfl d_PL_sells_181 ?_
      refine ev_iload (i := 11) rfl d_PL_sells_184 ?_
      refine ev_iload (i := 10) rfl d_PL_sells_186 ?_
      refine cv_iast hO7 okO (voK (by decide) (by decide)) rfl rfl (show inb (nI n) 24 = true from inb_of (by omega) (by omega)) rfl d_PL_sells_188 (fun G8 hO8 => ?_)
      rw [nI_clamp (by omega)] at hO8
      generalize hu8 : st3 u7 73 b n (nI pr) = u8 at hO8
      refine ev_aload_n (k0 := 1) rfl d_PL_sells_189 ?_
      refine cv_getN (.inr (0, off 74 b)) hO8 vo_0 gn_115 rfl rfl d_PL_sells_190 ?_
      refine ev_iload (i := 11) rfl d_PL_sells_193 ?_
      refine cw_iconst 0 d_PL_sells_195 rfl ?_
      refine cv_iast hO8 okO (voK (by decide) (by decide)) rfl rfl (show inb (nI n) 24 = true from inb_of (by omega) (by omega)) rfl d_PL_sells_196 (fun G9 hO9 => ?_)
      rw [nI_clamp (by omega)] at hO9
      generalize hu9 : st3 u8 74 b n 0 = u9 at hO9
      refine ev_aload_n (k0 := 1) rfl d_PL_sells_197 ?_
      refine cv_getN (.inr (0, off 76 b)) hO9 vo_0 gn_139 rfl rfl d_PL_sells_198 ?_
      refine ev_iload (i := 11) rfl d_PL_sells_201 ?_
      refine cw_iconst 0 d_PL_sells_203 rfl ?_
      refine cv_iast hO9 okO (voK (by decide) (by decide)) rfl rfl (show inb (nI n) 24 = true from inb_of (by omega) (by omega)) rfl d_PL_sells_204 (fun G10 hO10 => ?_)
      rw [nI_clamp (by omega)] at hO10
      generalize hu10 : st3 u9 76 b n 0 = u10 at hO10
      refine ev_aload_n (k0 := 1) rfl d_PL_sells_205 ?_
      refine cv_getN (.inr (0, off 61 b)) hO10 vo_0 gn_209 rfl rfl d_PL_sells_206 ?_
      refine ev_iload_n (k0 := 2) rfl d_PL_sells_209 ?_
      refine ev_dup2 rfl rfl d_PL_sells_210 ?_
      have r61 : u10 61 b c = u 61 b c := by rw [← hu10, st3_K (by decide), ← hu9, st3_K (by decide), ← hu8, st3_K (by decide), ← hu7, st3_K (by decide), ← hu6, st3_K (by decide), ← hu5, st3_K (by decide), ← hu4, st3_K (by decide), ← hu3, st3_K (by decide), ← hu2, st3_K (by decide), ← hu1, st3_K (by decide)]
      refine cv_iald hO10 (voK (by decide) (by decide)) rfl rfl (show inb (nI c) 8 = true from inb_of (by omega) (by omega)) rfl d_PL_sells_211 ?_
      rw [nI_clamp (by omega), r61]
      refine ev_iload (i := 10) rfl d_PL_sells_212 ?_
      refine ev_isub d_PL_sells_214 ?_
      refine cv_iast hO10 okO (voK (by decide) (by decide)) rfl rfl (show inb (nI c) 8 = true from inb_of (by omega) (by omega)) rfl d_PL_sells_215 (fun G11 hO11 => ?_)
      rw [nI_clamp (by omega)] at hO11
      generalize hu11 : st3 u10 61 b c (u 61 b c - nI pr) = u11 at hO11
      have r60 : u11 60 b 0 = u 60 b 0 := by rw [← hu11, st3_K (by decide), ← hu10, st3_K (by decide), ← hu9, st3_K (by decide), ← hu8, st3_K (by decide), ← hu7, st3_K (by decide), ← hu6, st3_K (by decide), ← hu5, st3_K (by decide), ← hu4, st3_K (by decide), ← hu3, st3_K (by decide), ← hu2, st3_K (by decide), ← hu1, st3_ua, ua_N (by decide)]
      refine ev_aload_n (k0 := 1) rfl d_PL_sells_216 ?_
      refine ev_dup rfl d_PL_sells_217 ?_
      refine cv_getN (.inl (.int (u11 60 b 0))) hO11 vo_0 gn_244 rfl rfl d_PL_sells_218 ?_
      rw [r60]
      refine ev_iload (i := 10) rfl d_PL_sells_221 ?_
      refine ev_iadd d_PL_sells_223 ?_
      refine cv_putN (.inl (.int (u 60 b 0 + nI pr))) (u 60 b 0 + nI pr) hO11 okO vo_0 pn_244 rfl rfl okv_int d_PL_sells_224 (fun G12 hO12 => ?_)
      generalize hu12 : st3 u11 60 b 0 (u 60 b 0 + nI pr) = u12 at hO12
      have hGz : LM vc 0 535 μ G12 G12 := own_vc hG hO12 hb
      obtain ⟨μ9, e1, e2, e3, e4⟩ := T_sale (kd := 0) (pl := nI at9) (dn := 0) (l := at9) (c := c) (e := ev) (de := de) (le := le) (pr := pr) hH hQo hps hQ hn24 (by omega) hc gev gat9 (Or.inr (Or.inl ⟨rfl, rfl, rfl⟩)) (by omega) gle.1 (by omega) gpr.1 (by omega) hpu
      have hsl : u12 = slU b n c ev (nI at9) 0 (nI (dd + de)) (nI (dd + de + le - 1)) (nI pr) u := by
        unfold slU
        rw [hu1, hu2, hu3, hu4, hu5, hu6, hu7, hu8, hu9, hu10, hu11, hu12]
      rw [← hsl] at e2
      refine ev_iload (i := 5) rfl d_PL_sells_227 ?_
      refine ev_if_ne (tgt := 250) (by decide) d_PL_sells_229 (fun c => absurd rfl c) (fun _ => ?_)
      refine ev_aload_n (k0 := 0) rfl d_PL_sells_232 ?_
      refine ev_iload_n (k0 := 2) rfl d_PL_sells_233 ?_
      refine ev_iload (i := 6) rfl d_PL_sells_234 ?_
      refine ev_iload (i := 7) rfl d_PL_sells_236 ?_
      refine ev_iload (i := 8) rfl d_PL_sells_238 ?_
      refine ev_iload (i := 9) rfl d_PL_sells_240 ?_
      refine ev_iload (i := 10) rfl d_PL_sells_242 ?_
      have ef : f_P_sellPlain (nI c) (nI ev) (nI at9) (nI de) (nI le) (nI pr) μ = some (nI n, μ9) := by unfold f_P_sellPlain; rw [show f_P_sellAny (nI c) 0 (nI ev) (nI at9) (nI de) (nI le) (nI pr) μ = some (nI n, μ9) from e1, bind_s]
      refine Ev.z9 (cv_V [.inl (.int (nI c)), .inl (.int (nI ev)), .inl (.int (nI at9)), .inl (.int (nI de)), .inl (.int (nI le)), .inl (.int (nI pr))] hGz v_12 rfl lk_ProphecyShopLaw_315 (w_P_sellPlain (d + 2) hGz ef) rfl rfl d_PL_sells_244 (aft_rw (fun Gy hGy => ?_)))
      refine ev_goto (tgt := 287) (by decide) d_PL_sells_247 ?_
      refine ev_iload (i := 11) rfl d_PL_sells_287 ?_
      refine ev_icmp_ne (tgt := 296) (by decide) d_PL_sells_289 (fun c => absurd rfl c) (fun _ => ?_)
      refine cw_iconst 1 d_PL_sells_292 rfl ?_
      refine ev_goto (tgt := 297) (by decide) d_PL_sells_293 ?_
      exact ev_ireturn (st := []) rfl rfl d_PL_sells_297 ⟨rfl, (own_of hO12).tr (vc_of hGy), Or.inr ⟨rfl, μ9, _, _, _, _, _, hGy.refl, vc_own hO12 hGy hb, e2, e3, e4, by omega⟩⟩
    · subst z
      refine ev_icmp_ne (tgt := 126) (by decide) d_PL_sells_119 (fun c => absurd rfl c) (fun _ => ?_)
      refine cw_iconst (-1) d_PL_sells_122 rfl ?_
      refine ev_goto (tgt := 128) (by decide) d_PL_sells_123 ?_
      refine cv_iast hO3 okO (voK (by decide) (by decide)) rfl rfl (show inb (nI n) 24 = true from inb_of (by omega) (by omega)) rfl d_PL_sells_128 (fun G4 hO4 => ?_)
      rw [nI_clamp (by omega)] at hO4
      generalize hu4 : st3 u3 70 b n ((-1)) = u4 at hO4
      refine ev_aload_n (k0 := 1) rfl d_PL_sells_129 ?_
      refine cv_getN (.inr (0, off 78 b)) hO4 vo_0 gn_64 rfl rfl d_PL_sells_130 ?_
      refine ev_iload (i := 11) rfl d_PL_sells_133 ?_
      refine ev_iload (i := 5) rfl d_PL_sells_135 ?_
      refine cw_iconst 2 d_PL_sells_137 rfl ?_
      refine ev_icmp_ne (tgt := 145) (by decide) d_PL_sells_138 (fun _ => ?_) (fun c => absurd c (by decide))
      refine cw_iconst 0 d_PL_sells_145 rfl ?_
      refine cv_zast hO4 okO (voK (by decide) (by decide)) rfl rfl (show inb (nI n) 24 = true from inb_of (by omega) (by omega)) rfl rfl d_PL_sells_146 (fun G5 hO5 => ?_)
      rw [nI_clamp (by omega)] at hO5
      generalize hu5 : st3 u4 78 b n 0 = u5 at hO5
      have r5 : u5 60 b 5 = nI dd := by rw [← hu5, st3_K (by decide), ← hu4, st3_K (by decide), ← hu3, st3_K (by decide), ← hu2, st3_K (by decide), ← hu1, st3_ua, ua_N (by decide)]; exact a5
      refine ev_aload_n (k0 := 1) rfl d_PL_sells_147 ?_
      refine cv_getN (.inr (0, off 71 b)) hO5 vo_0 gn_84 rfl rfl d_PL_sells_148 ?_
      refine ev_iload (i := 11) rfl d_PL_sells_151 ?_
      refine ev_aload_n (k0 := 1) rfl d_PL_sells_153 ?_
      refine cv_getN (.inl (.int (u5 60 b 5))) hO5 vo_0 gn_151 rfl rfl d_PL_sells_154 ?_
      rw [r5]
      refine ev_iload (i := 8) rfl d_PL_sells_157 ?_
      refine ev_iadd d_PL_sells_159 ?_
      rw [show nI dd + nI de = nI (dd + de) from nI_add dd de]
      refine cv_iast hO5 okO (voK (by decide) (by decide)) rfl rfl (show inb (nI n) 24 = true from inb_of (by omega) (by omega)) rfl d_PL_sells_160 (fun G6 hO6 => ?_)
      rw [nI_clamp (by omega)] at hO6
      generalize hu6 : st3 u5 71 b n (nI (dd + de)) = u6 at hO6
      have r5 : u6 60 b 5 = nI dd := by rw [← hu6, st3_K (by decide), ← hu5, st3_K (by decide), ← hu4, st3_K (by decide), ← hu3, st3_K (by decide), ← hu2, st3_K (by decide), ← hu1, st3_ua, ua_N (by decide)]; exact a5
      refine ev_aload_n (k0 := 1) rfl d_PL_sells_161 ?_
      refine cv_getN (.inr (0, off 72 b)) hO6 vo_0 gn_90 rfl rfl d_PL_sells_162 ?_
      refine ev_iload (i := 11) rfl d_PL_sells_165 ?_
      refine ev_aload_n (k0 := 1) rfl d_PL_sells_167 ?_
      refine cv_getN (.inl (.int (u6 60 b 5))) hO6 vo_0 gn_151 rfl rfl d_PL_sells_168 ?_
      rw [r5]
      refine ev_iload (i := 8) rfl d_PL_sells_171 ?_
      refine ev_iadd d_PL_sells_173 ?_
      rw [show nI dd + nI de = nI (dd + de) from nI_add dd de]
      refine ev_iload (i := 9) rfl d_PL_sells_174 ?_
      refine ev_iadd d_PL_sells_176 ?_
      rw [show nI (dd + de) + nI le = nI ((dd + de) + le) from nI_add (dd + de) le]
      refine cw_iconst 1 d_PL_sells_177 rfl ?_
      refine ev_isub d_PL_sells_178 ?_
      rw [show nI (dd + de + le) - 1 = nI (dd + de + le - 1) from nI_sub (a := dd + de + le) (b := 1) (by omega)]
      refine cv_iast hO6 okO (voK (by decide) (by decide)) rfl rfl (show inb (nI n) 24 = true from inb_of (by omega) (by omega)) rfl d_PL_sells_179 (fun G7 hO7 => ?_)
      rw [nI_clamp (by omega)] at hO7
      generalize hu7 : st3 u6 72 b n (nI (dd + de + le - 1)) = u7 at hO7
      refine ev_aload_n (k0 := 1) rfl d_PL_sells_180 ?_
      refine cv_getN (.inr (0, off 73 b)) hO7 vo_0 gn_196 rfl rfl d_PL_sells_181 ?_
      refine ev_iload (i := 11) rfl d_PL_sells_184 ?_
      refine ev_iload (i := 10) rfl d_PL_sells_186 ?_
      refine cv_iast hO7 okO (voK (by decide) (by decide)) rfl rfl (show inb (nI n) 24 = true from inb_of (by omega) (by omega)) rfl d_PL_sells_188 (fun G8 hO8 => ?_)
      rw [nI_clamp (by omega)] at hO8
      generalize hu8 : st3 u7 73 b n (nI pr) = u8 at hO8
      refine ev_aload_n (k0 := 1) rfl d_PL_sells_189 ?_
      refine cv_getN (.inr (0, off 74 b)) hO8 vo_0 gn_115 rfl rfl d_PL_sells_190 ?_
      refine ev_iload (i := 11) rfl d_PL_sells_193 ?_
      refine cw_iconst 0 d_PL_sells_195 rfl ?_
      refine cv_iast hO8 okO (voK (by decide) (by decide)) rfl rfl (show inb (nI n) 24 = true from inb_of (by omega) (by omega)) rfl d_PL_sells_196 (fun G9 hO9 => ?_)
      rw [nI_clamp (by omega)] at hO9
      generalize hu9 : st3 u8 74 b n 0 = u9 at hO9
      refine ev_aload_n (k0 := 1) rfl d_PL_sells_197 ?_
      refine cv_getN (.inr (0, off 76 b)) hO9 vo_0 gn_139 rfl rfl d_PL_sells_198 ?_
      refine ev_iload (i := 11) rfl d_PL_sells_201 ?_
      refine cw_iconst 0 d_PL_sells_203 rfl ?_
      refine cv_iast hO9 okO (voK (by decide) (by decide)) rfl rfl (show inb (nI n) 24 = true from inb_of (by omega) (by omega)) rfl d_PL_sells_204 (fun G10 hO10 => ?_)
      rw [nI_clamp (by omega)] at hO10
      generalize hu10 : st3 u9 76 b n 0 = u10 at hO10
      refine ev_aload_n (k0 := 1) rfl d_PL_sells_205 ?_
      refine cv_getN (.inr (0, off 61 b)) hO10 vo_0 gn_209 rfl rfl d_PL_sells_206 ?_
      refine ev_iload_n (k0 := 2) rfl d_PL_sells_209 ?_
      refine ev_dup2 rfl rfl d_PL_sells_210 ?_
      have r61 : u10 61 b c = u 61 b c := by rw [← hu10, st3_K (by decide), ← hu9, st3_K (by decide), ← hu8, st3_K (by decide), ← hu7, st3_K (by decide), ← hu6, st3_K (by decide), ← hu5, st3_K (by decide), ← hu4, st3_K (by decide), ← hu3, st3_K (by decide), ← hu2, st3_K (by decide), ← hu1, st3_K (by decide)]
      refine cv_iald hO10 (voK (by decide) (by decide)) rfl rfl (show inb (nI c) 8 = true from inb_of (by omega) (by omega)) rfl d_PL_sells_211 ?_
      rw [nI_clamp (by omega), r61]
      refine ev_iload (i := 10) rfl d_PL_sells_212 ?_
      refine ev_isub d_PL_sells_214 ?_
      refine cv_iast hO10 okO (voK (by decide) (by decide)) rfl rfl (show inb (nI c) 8 = true from inb_of (by omega) (by omega)) rfl d_PL_sells_215 (fun G11 hO11 => ?_)
      rw [nI_clamp (by omega)] at hO11
      generalize hu11 : st3 u10 61 b c (u 61 b c - nI pr) = u11 at hO11
      have r60 : u11 60 b 0 = u 60 b 0 := by rw [← hu11, st3_K (by decide), ← hu10, st3_K (by decide), ← hu9, st3_K (by decide), ← hu8, st3_K (by decide), ← hu7, st3_K (by decide), ← hu6, st3_K (by decide), ← hu5, st3_K (by decide), ← hu4, st3_K (by decide), ← hu3, st3_K (by decide), ← hu2, st3_K (by decide), ← hu1, st3_ua, ua_N (by decide)]
      refine ev_aload_n (k0 := 1) rfl d_PL_sells_216 ?_
      refine ev_dup rfl d_PL_sells_217 ?_
      refine cv_getN (.inl (.int (u11 60 b 0))) hO11 vo_0 gn_244 rfl rfl d_PL_sells_218 ?_
      rw [r60]
      refine ev_iload (i := 10) rfl d_PL_sells_221 ?_
      refine ev_iadd d_PL_sells_223 ?_
      refine cv_putN (.inl (.int (u 60 b 0 + nI pr))) (u 60 b 0 + nI pr) hO11 okO vo_0 pn_244 rfl rfl okv_int d_PL_sells_224 (fun G12 hO12 => ?_)
      generalize hu12 : st3 u11 60 b 0 (u 60 b 0 + nI pr) = u12 at hO12
      have hGz : LM vc 0 535 μ G12 G12 := own_vc hG hO12 hb
      obtain ⟨μ9, e1, e2, e3, e4⟩ := T_sale (kd := 1) (pl := (-1)) (dn := 0) (l := at9) (c := c) (e := ev) (de := de) (le := le) (pr := pr) hH hQo hps hQ hn24 (by omega) hc gev gat9 (Or.inl ⟨rfl, rfl, rfl⟩) (by omega) gle.1 (by omega) gpr.1 (by omega) hpu
      have hsl : u12 = slU b n c ev ((-1)) 0 (nI (dd + de)) (nI (dd + de + le - 1)) (nI pr) u := by
        unfold slU
        rw [hu1, hu2, hu3, hu4, hu5, hu6, hu7, hu8, hu9, hu10, hu11, hu12]
      rw [← hsl] at e2
      refine ev_iload (i := 5) rfl d_PL_sells_227 ?_
      refine ev_if_ne (tgt := 250) (by decide) d_PL_sells_229 (fun _ => ?_) (fun c => absurd c (by decide))
      refine ev_iload (i := 5) rfl d_PL_sells_250 ?_
      refine cw_iconst 1 d_PL_sells_252 rfl ?_
      refine ev_icmp_ne (tgt := 272) (by decide) d_PL_sells_253 (fun c => absurd rfl c) (fun _ => ?_)
      refine ev_aload_n (k0 := 0) rfl d_PL_sells_256 ?_
      refine ev_iload_n (k0 := 2) rfl d_PL_sells_257 ?_
      refine ev_iload (i := 6) rfl d_PL_sells_258 ?_
      refine ev_iload (i := 8) rfl d_PL_sells_260 ?_
      refine ev_iload (i := 9) rfl d_PL_sells_262 ?_
      refine ev_iload (i := 10) rfl d_PL_sells_264 ?_
      have ef : f_P_sellVague (nI c) (nI ev) (nI de) (nI le) (nI pr) μ = some (nI n, μ9) := by unfold f_P_sellVague; rw [show f_P_sellAny (nI c) 1 (nI ev) ((-1)) (nI de) (nI le) (nI pr) μ = some (nI n, μ9) from e1, bind_s]
      refine Ev.z9 (cv_V [.inl (.int (nI c)), .inl (.int (nI ev)), .inl (.int (nI de)), .inl (.int (nI le)), .inl (.int (nI pr))] hGz v_12 rfl lk_ProphecyShopLaw_319 (w_P_sellVague (d + 2) hGz ef) rfl rfl d_PL_sells_266 (aft_rw (fun Gy hGy => ?_)))
      refine ev_goto (tgt := 287) (by decide) d_PL_sells_269 ?_
      refine ev_iload (i := 11) rfl d_PL_sells_287 ?_
      refine ev_icmp_ne (tgt := 296) (by decide) d_PL_sells_289 (fun c => absurd rfl c) (fun _ => ?_)
      refine cw_iconst 1 d_PL_sells_292 rfl ?_
      refine ev_goto (tgt := 297) (by decide) d_PL_sells_293 ?_
      exact ev_ireturn (st := []) rfl rfl d_PL_sells_297 ⟨rfl, (own_of hO12).tr (vc_of hGy), Or.inr ⟨rfl, μ9, _, _, _, _, _, hGy.refl, vc_own hO12 hGy hb, e2, e3, e4, by omega⟩⟩
    · subst z
      refine ev_icmp_ne (tgt := 126) (by decide) d_PL_sells_119 (fun _ => ?_) (fun c => absurd c (by decide))
      refine ev_iload (i := 7) rfl d_PL_sells_126 ?_
      refine cv_iast hO3 okO (voK (by decide) (by decide)) rfl rfl (show inb (nI n) 24 = true from inb_of (by omega) (by omega)) rfl d_PL_sells_128 (fun G4 hO4 => ?_)
      rw [nI_clamp (by omega)] at hO4
      generalize hu4 : st3 u3 70 b n (nI at9) = u4 at hO4
      refine ev_aload_n (k0 := 1) rfl d_PL_sells_129 ?_
      refine cv_getN (.inr (0, off 78 b)) hO4 vo_0 gn_64 rfl rfl d_PL_sells_130 ?_
      refine ev_iload (i := 11) rfl d_PL_sells_133 ?_
      refine ev_iload (i := 5) rfl d_PL_sells_135 ?_
      refine cw_iconst 2 d_PL_sells_137 rfl ?_
      refine ev_icmp_ne (tgt := 145) (by decide) d_PL_sells_138 (fun c => absurd rfl c) (fun _ => ?_)
      refine cw_iconst 1 d_PL_sells_141 rfl ?_
      refine ev_goto (tgt := 146) (by decide) d_PL_sells_142 ?_
      refine cv_zast hO4 okO (voK (by decide) (by decide)) rfl rfl (show inb (nI n) 24 = true from inb_of (by omega) (by omega)) rfl rfl d_PL_sells_146 (fun G5 hO5 => ?_)
      rw [nI_clamp (by omega)] at hO5
      generalize hu5 : st3 u4 78 b n 1 = u5 at hO5
      have r5 : u5 60 b 5 = nI dd := by rw [← hu5, st3_K (by decide), ← hu4, st3_K (by decide), ← hu3, st3_K (by decide), ← hu2, st3_K (by decide), ← hu1, st3_ua, ua_N (by decide)]; exact a5
      refine ev_aload_n (k0 := 1) rfl d_PL_sells_147 ?_
      refine cv_getN (.inr (0, off 71 b)) hO5 vo_0 gn_84 rfl rfl d_PL_sells_148 ?_
      refine ev_iload (i := 11) rfl d_PL_sells_151 ?_
      refine ev_aload_n (k0 := 1) rfl d_PL_sells_153 ?_
      refine cv_getN (.inl (.int (u5 60 b 5))) hO5 vo_0 gn_151 rfl rfl d_PL_sells_154 ?_
      rw [r5]
      refine ev_iload (i := 8) rfl d_PL_sells_157 ?_
      refine ev_iadd d_PL_sells_159 ?_
      rw [show nI dd + nI de = nI (dd + de) from nI_add dd de]
      refine cv_iast hO5 okO (voK (by decide) (by decide)) rfl rfl (show inb (nI n) 24 = true from inb_of (by omega) (by omega)) rfl d_PL_sells_160 (fun G6 hO6 => ?_)
      rw [nI_clamp (by omega)] at hO6
      generalize hu6 : st3 u5 71 b n (nI (dd + de)) = u6 at hO6
      have r5 : u6 60 b 5 = nI dd := by rw [← hu6, st3_K (by decide), ← hu5, st3_K (by decide), ← hu4, st3_K (by decide), ← hu3, st3_K (by decide), ← hu2, st3_K (by decide), ← hu1, st3_ua, ua_N (by decide)]; exact a5
      refine ev_aload_n (k0 := 1) rfl d_PL_sells_161 ?_
      refine cv_getN (.inr (0, off 72 b)) hO6 vo_0 gn_90 rfl rfl d_PL_sells_162 ?_
      refine ev_iload (i := 11) rfl d_PL_sells_165 ?_
      refine ev_aload_n (k0 := 1) rfl d_PL_sells_167 ?_
      refine cv_getN (.inl (.int (u6 60 b 5))) hO6 vo_0 gn_151 rfl rfl d_PL_sells_168 ?_
      rw [r5]
      refine ev_iload (i := 8) rfl d_PL_sells_171 ?_
      refine ev_iadd d_PL_sells_173 ?_
      rw [show nI dd + nI de = nI (dd + de) from nI_add dd de]
      refine ev_iload (i := 9) rfl d_PL_sells_174 ?_
      refine ev_iadd d_PL_sells_176 ?_
      rw [show nI (dd + de) + nI le = nI ((dd + de) + le) from nI_add (dd + de) le]
      refine cw_iconst 1 d_PL_sells_177 rfl ?_
      refine ev_isub d_PL_sells_178 ?_
      rw [show nI (dd + de + le) - 1 = nI (dd + de + le - 1) from nI_sub (a := dd + de + le) (b := 1) (by omega)]
      refine cv_iast hO6 okO (voK (by decide) (by decide)) rfl rfl (show inb (nI n) 24 = true from inb_of (by omega) (by omega)) rfl d_PL_sells_179 (fun G7 hO7 => ?_)
      rw [nI_clamp (by omega)] at hO7
      generalize hu7 : st3 u6 72 b n (nI (dd + de + le - 1)) = u7 at hO7
      refine ev_aload_n (k0 := 1) rfl d_PL_sells_180 ?_
      refine cv_getN (.inr (0, off 73 b)) hO7 vo_0 gn_196 rfl rfl d_PL_sells_181 ?_
      refine ev_iload (i := 11) rfl d_PL_sells_184 ?_
      refine ev_iload (i := 10) rfl d_PL_sells_186 ?_
      refine cv_iast hO7 okO (voK (by decide) (by decide)) rfl rfl (show inb (nI n) 24 = true from inb_of (by omega) (by omega)) rfl d_PL_sells_188 (fun G8 hO8 => ?_)
      rw [nI_clamp (by omega)] at hO8
      generalize hu8 : st3 u7 73 b n (nI pr) = u8 at hO8
      refine ev_aload_n (k0 := 1) rfl d_PL_sells_189 ?_
      refine cv_getN (.inr (0, off 74 b)) hO8 vo_0 gn_115 rfl rfl d_PL_sells_190 ?_
      refine ev_iload (i := 11) rfl d_PL_sells_193 ?_
      refine cw_iconst 0 d_PL_sells_195 rfl ?_
      refine cv_iast hO8 okO (voK (by decide) (by decide)) rfl rfl (show inb (nI n) 24 = true from inb_of (by omega) (by omega)) rfl d_PL_sells_196 (fun G9 hO9 => ?_)
      rw [nI_clamp (by omega)] at hO9
      generalize hu9 : st3 u8 74 b n 0 = u9 at hO9
      refine ev_aload_n (k0 := 1) rfl d_PL_sells_197 ?_
      refine cv_getN (.inr (0, off 76 b)) hO9 vo_0 gn_139 rfl rfl d_PL_sells_198 ?_
      refine ev_iload (i := 11) rfl d_PL_sells_201 ?_
      refine cw_iconst 0 d_PL_sells_203 rfl ?_
      refine cv_iast hO9 okO (voK (by decide) (by decide)) rfl rfl (show inb (nI n) 24 = true from inb_of (by omega) (by omega)) rfl d_PL_sells_204 (fun G10 hO10 => ?_)
      rw [nI_clamp (by omega)] at hO10
      generalize hu10 : st3 u9 76 b n 0 = u10 at hO10
      refine ev_aload_n (k0 := 1) rfl d_PL_sells_205 ?_
      refine cv_getN (.inr (0, off 61 b)) hO10 vo_0 gn_209 rfl rfl d_PL_sells_206 ?_
      refine ev_iload_n (k0 := 2) rfl d_PL_sells_209 ?_
      refine ev_dup2 rfl rfl d_PL_sells_210 ?_
      have r61 : u10 61 b c = u 61 b c := by rw [← hu10, st3_K (by decide), ← hu9, st3_K (by decide), ← hu8, st3_K (by decide), ← hu7, st3_K (by decide), ← hu6, st3_K (by decide), ← hu5, st3_K (by decide), ← hu4, st3_K (by decide), ← hu3, st3_K (by decide), ← hu2, st3_K (by decide), ← hu1, st3_K (by decide)]
      refine cv_iald hO10 (voK (by decide) (by decide)) rfl rfl (show inb (nI c) 8 = true from inb_of (by omega) (by omega)) rfl d_PL_sells_211 ?_
      rw [nI_clamp (by omega), r61]
      refine ev_iload (i := 10) rfl d_PL_sells_212 ?_
      refine ev_isub d_PL_sells_214 ?_
      refine cv_iast hO10 okO (voK (by decide) (by decide)) rfl rfl (show inb (nI c) 8 = true from inb_of (by omega) (by omega)) rfl d_PL_sells_215 (fun G11 hO11 => ?_)
      rw [nI_clamp (by omega)] at hO11
      generalize hu11 : st3 u10 61 b c (u 61 b c - nI pr) = u11 at hO11
      have r60 : u11 60 b 0 = u 60 b 0 := by rw [← hu11, st3_K (by decide), ← hu10, st3_K (by decide), ← hu9, st3_K (by decide), ← hu8, st3_K (by decide), ← hu7, st3_K (by decide), ← hu6, st3_K (by decide), ← hu5, st3_K (by decide), ← hu4, st3_K (by decide), ← hu3, st3_K (by decide), ← hu2, st3_K (by decide), ← hu1, st3_ua, ua_N (by decide)]
      refine ev_aload_n (k0 := 1) rfl d_PL_sells_216 ?_
      refine ev_dup rfl d_PL_sells_217 ?_
      refine cv_getN (.inl (.int (u11 60 b 0))) hO11 vo_0 gn_244 rfl rfl d_PL_sells_218 ?_
      rw [r60]
      refine ev_iload (i := 10) rfl d_PL_sells_221 ?_
      refine ev_iadd d_PL_sells_223 ?_
      refine cv_putN (.inl (.int (u 60 b 0 + nI pr))) (u 60 b 0 + nI pr) hO11 okO vo_0 pn_244 rfl rfl okv_int d_PL_sells_224 (fun G12 hO12 => ?_)
      generalize hu12 : st3 u11 60 b 0 (u 60 b 0 + nI pr) = u12 at hO12
      have hGz : LM vc 0 535 μ G12 G12 := own_vc hG hO12 hb
      obtain ⟨μ9, e1, e2, e3, e4⟩ := T_sale (kd := 2) (pl := nI at9) (dn := 1) (l := at9) (c := c) (e := ev) (de := de) (le := le) (pr := pr) hH hQo hps hQ hn24 (by omega) hc gev gat9 (Or.inr (Or.inr ⟨rfl, rfl, rfl⟩)) (by omega) gle.1 (by omega) gpr.1 (by omega) hpu
      have hsl : u12 = slU b n c ev (nI at9) 1 (nI (dd + de)) (nI (dd + de + le - 1)) (nI pr) u := by
        unfold slU
        rw [hu1, hu2, hu3, hu4, hu5, hu6, hu7, hu8, hu9, hu10, hu11, hu12]
      rw [← hsl] at e2
      refine ev_iload (i := 5) rfl d_PL_sells_227 ?_
      refine ev_if_ne (tgt := 250) (by decide) d_PL_sells_229 (fun _ => ?_) (fun c => absurd c (by decide))
      refine ev_iload (i := 5) rfl d_PL_sells_250 ?_
      refine cw_iconst 1 d_PL_sells_252 rfl ?_
      refine ev_icmp_ne (tgt := 272) (by decide) d_PL_sells_253 (fun _ => ?_) (fun c => absurd c (by decide))
      refine ev_aload_n (k0 := 0) rfl d_PL_sells_272 ?_
      refine ev_iload_n (k0 := 2) rfl d_PL_sells_273 ?_
      refine ev_iload (i := 6) rfl d_PL_sells_274 ?_
      refine ev_iload (i := 7) rfl d_PL_sells_276 ?_
      refine ev_iload (i := 8) rfl d_PL_sells_278 ?_
      refine ev_iload (i := 9) rfl d_PL_sells_280 ?_
      refine ev_iload (i := 10) rfl d_PL_sells_282 ?_
      have ef : f_P_sellDenial (nI c) (nI ev) (nI at9) (nI de) (nI le) (nI pr) μ = some (nI n, μ9) := by unfold f_P_sellDenial; rw [show f_P_sellAny (nI c) 2 (nI ev) (nI at9) (nI de) (nI le) (nI pr) μ = some (nI n, μ9) from e1, bind_s]
      refine Ev.z9 (cv_V [.inl (.int (nI c)), .inl (.int (nI ev)), .inl (.int (nI at9)), .inl (.int (nI de)), .inl (.int (nI le)), .inl (.int (nI pr))] hGz v_12 rfl lk_ProphecyShopLaw_322 (w_P_sellDenial (d + 2) hGz ef) rfl rfl d_PL_sells_284 (aft_rw (fun Gy hGy => ?_)))
      refine ev_iload (i := 11) rfl d_PL_sells_287 ?_
      refine ev_icmp_ne (tgt := 296) (by decide) d_PL_sells_289 (fun c => absurd rfl c) (fun _ => ?_)
      refine cw_iconst 1 d_PL_sells_292 rfl ?_
      refine ev_goto (tgt := 297) (by decide) d_PL_sells_293 ?_
      exact ev_ireturn (st := []) rfl rfl d_PL_sells_297 ⟨rfl, (own_of hO12).tr (vc_of hGy), Or.inr ⟨rfl, μ9, _, _, _, _, _, hGy.refl, vc_own hO12 hGy hb, e2, e3, e4, by omega⟩⟩
  by_cases h24 : n = 24
  · refine ev_icmp_eq (tgt := 75) (by decide) d_PL_sells_61 (fun _ => KN) (fun c => absurd (by rw [h24]; rfl) c)
  · refine ev_icmp_eq (tgt := 75) (by decide) d_PL_sells_61 (fun _ => KN) (fun _ => ?_)
    refine ev_aload_n (k0 := 1) rfl d_PL_sells_64 ?_
    refine cv_getN (.inr (0, off 61 b)) hO vo_0 gn_209 rfl rfl d_PL_sells_65 ?_
    refine ev_iload_n (k0 := 2) rfl d_PL_sells_68 ?_
    refine cv_iald hO (voK (by decide) (by decide)) rfl rfl (show inb (nI c) 8 = true from inb_of (by omega) (by omega)) rfl d_PL_sells_69 ?_
    rw [nI_clamp (by omega)]
    refine ev_iload (i := 10) rfl d_PL_sells_70 ?_
    exact ev_icmp_ge (tgt := 77) (by decide) d_PL_sells_72 (fun c => KS (by omega) (Int32.not_lt.mpr c)) (fun _ => KN)
end Sells

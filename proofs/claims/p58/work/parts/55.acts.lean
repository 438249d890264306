/-! The law's acts. -/
theorem psN_pre {b : Nat} {u u' : Mem} : ∀ {k i : Nat}, psN b k u = some u' → i ≤ k → ∃ ui, psN b i u = some ui := by
  intro k
  induction k generalizing u' with
  | zero => intro i h hi; exact ⟨u, by rw [show i = 0 by omega]; rfl⟩
  | succ k ih =>
    intro i h hi
    by_cases e : i = k + 1
    · exact ⟨u', by rw [e]; exact h⟩
    · replace h : (psN b k u).bind (f_Own_passes b) = some u' := h
      cases hk : psN b k u with
      | none => rw [hk] at h; cases h
      | some x => exact ih hk (by omega)
theorem inq_neg {a : Nat → Int32} {x : Int32} {w : Nat} (hw : w ≤ 24) (h : inq a x w < 0) : inq a x w = -1 := by
  unfold inq at h ⊢
  rcases fdI_sp (P := fun k => decide (a (500 + k) = x)) (n := w) (i := 0) with ⟨e, -⟩ | ⟨k, -, hk, -, e, -⟩
  · exact e
  · rw [e] at h
    exact absurd h (nI_neg1 (by omega))
section Acts
variable {g : GL} {G : RG} {c0 : Int32} {μ v u : Mem} {s b b0 E P C O n w t dd nx h K : Nat} {ps : Nat → Nat × Mem}
theorem act_happen (d : Nat) (hG : LM vc 0 535 μ G G) (hO : LM (vo b) b (b + 21) u G G) (hb : 535 ≤ b) (hH : HIS c0 μ s E P C O h K ps) (hQo : QS c0 μ 0 s b0 v E P C O n w t dd) (hps : ps K = (b0, v)) (hQ : QS c0 μ 0 s b u E P C O n w t dd) (hdd : dd ≤ 3100) (hE1 : 1 ≤ E) (hP1 : 1 ≤ P) {at9 kd vv ww : Nat} (hvv : vv < 10000) (hww : ww < 10000) : Ev g (d + 8) m_PL_acts 77 [some (.inr (0, off 12 0)), some (.inr (0, off 60 b)), some (.inr (1, 90)), some (.inl (.int (nI at9))), some (.inl (.int (nI kd))), some (.inl (.int (nI vv))), some (.inl (.int (nI ww))), none, none, none] [] (G, nx) 0 0 (pAct G nx b c0 μ s E P C O h K dd ps) := by
  obtain ⟨hs2, hE6, hP6, hC8, hO5, ⟨-, a6⟩, ⟨-, a7⟩, ⟨-, a8⟩, ⟨-, a9⟩, -⟩ := hQ.2.1
  obtain ⟨hn, hw, ht, -, -, a5, -, -, a10, -, a12, -, a11, -⟩ := hQ.2.2.1.1
  have r10 := a10
  have r11 := a11
  have r12 := a12
  rw [ro_0 (by omega)] at a5 a6 a7 a8 a10 a11 a12
  refine ev_iload (i := 5) rfl d_PL_acts_77 ?_
  refine ev_aload_n (k0 := 1) rfl d_PL_acts_79 ?_
  refine cv_getN (.inl (.int (u 60 b 6))) hO vo_0 gn_165 rfl rfl d_PL_acts_80 ?_
  rw [a6]
  refine ev_irem (ne_0 (by omega) (by omega)) d_PL_acts_83 ?_
  rw [show nI vv - nI vv / (nI E) * (nI E) = nI (vv % E) from rem_nI (d := E) (by omega) (by omega) (by omega)]
  obtain ⟨ev, hev, gev⟩ : ∃ z, z = vv % E ∧ z < E := ⟨_, rfl, Nat.mod_lt _ (by omega)⟩
  rw [← hev]
  refine cw_istoreN 7 (nI ev) rfl [some (.inr (0, off 12 0)), some (.inr (0, off 60 b)), some (.inr (1, 90)), some (.inl (.int (nI at9))), some (.inl (.int (nI kd))), some (.inl (.int (nI vv))), some (.inl (.int (nI ww))), some (.inl (.int (nI ev))), none, none] d_PL_acts_84 rfl rfl rfl ?_
  refine ev_iload (i := 6) rfl d_PL_acts_86 ?_
  refine ev_aload_n (k0 := 1) rfl d_PL_acts_88 ?_
  refine cv_getN (.inl (.int (u 60 b 7))) hO vo_0 gn_162 rfl rfl d_PL_acts_89 ?_
  rw [a7]
  refine ev_irem (ne_0 (by omega) (by omega)) d_PL_acts_92 ?_
  rw [show nI ww - nI ww / (nI P) * (nI P) = nI (ww % P) from rem_nI (d := P) (by omega) (by omega) (by omega)]
  obtain ⟨pl, hpl, gpl⟩ : ∃ z, z = ww % P ∧ z < P := ⟨_, rfl, Nat.mod_lt _ (by omega)⟩
  rw [← hpl]
  refine cw_istoreN 8 (nI pl) rfl [some (.inr (0, off 12 0)), some (.inr (0, off 60 b)), some (.inr (1, 90)), some (.inl (.int (nI at9))), some (.inl (.int (nI kd))), some (.inl (.int (nI vv))), some (.inl (.int (nI ww))), some (.inl (.int (nI ev))), some (.inl (.int (nI pl))), none] d_PL_acts_93 rfl rfl rfl ?_
  refine ev_aload_n (k0 := 1) rfl d_PL_acts_95 ?_
  refine cv_getN (.inl (.int (u 60 b 11))) hO vo_0 gn_333 rfl rfl d_PL_acts_96 ?_
  rw [a11]
  refine cw_bipush 60 d_PL_acts_99 rfl ?_
  have KN : Ev g (d + 8) m_PL_acts 119 [some (.inr (0, off 12 0)), some (.inr (0, off 60 b)), some (.inr (1, 90)), some (.inl (.int (nI at9))), some (.inl (.int (nI kd))), some (.inl (.int (nI vv))), some (.inl (.int (nI ww))), some (.inl (.int (nI ev))), some (.inl (.int (nI pl))), none] [] (G, nx) 0 0 (pAct G nx b c0 μ s E P C O h K dd ps) := by
    refine cw_iconst (-1) d_PL_acts_119 rfl ?_
    exact ev_ireturn (st := []) rfl rfl d_PL_acts_120 ⟨rfl, OF.rf, Or.inl ⟨rfl, rfl⟩⟩
  by_cases h60 : t = 60
  · refine ev_icmp_eq (tgt := 119) (by decide) d_PL_acts_101 (fun _ => KN) (fun c => absurd (by rw [h60]; rfl) c)
  · refine ev_icmp_eq (tgt := 119) (by decide) d_PL_acts_101 (fun c => absurd ((nI_eq (a := t) (b := 60) (by omega) (by omega)).mp c) h60) (fun _ => ?_)
    refine ev_aload_n (k0 := 1) rfl d_PL_acts_104 ?_
    refine ev_iload (i := 7) rfl d_PL_acts_105 ?_
    refine ev_iload (i := 8) rfl d_PL_acts_107 ?_
    refine ev_aload_n (k0 := 1) rfl d_PL_acts_109 ?_
    refine cv_getN (.inl (.int (u 60 b 5))) hO vo_0 gn_151 rfl rfl d_PL_acts_110 ?_
    rw [a5]
    refine Ev.z9 (cv_V [.inl (.int (nI ev)), .inl (.int (nI pl)), .inl (.int (nI dd))] hO vo_0 rfl lk_ProphecyShopLaw_179 (w_Own_has (d + 7) vo_0 hO (O_has (by omega) (by omega) r11 ht hQ.2.2.2.2.2)) rfl rfl d_PL_acts_113 (aft_ro ?_))
    by_cases hno : hapd (rO c0 b u) (nI ev) (nI pl) (nI dd) t = 0
    · rw [if_pos hno]
      refine ev_if_eq (tgt := 121) (by decide) d_PL_acts_116 (fun _ => ?_) (fun c => absurd rfl c)
      obtain ⟨cnt, μ9, u9, e1, e2, e3, e4, e5⟩ := T_happen hH hQo hps hQ (by omega) (by omega) gev gpl hno
      refine ev_aload_n (k0 := 0) rfl d_PL_acts_121 ?_
      refine ev_iload (i := 7) rfl d_PL_acts_122 ?_
      refine ev_iload (i := 8) rfl d_PL_acts_124 ?_
      refine Ev.z9 (cv_V [.inl (.int (nI ev)), .inl (.int (nI pl))] hG v_12 rfl lk_ProphecyShopLaw_336 (w_P_happen (d + 4) hG (e1)) rfl rfl d_PL_acts_126 (aft_rw (fun G1 hG1 => ?_)))
      have hO1 : LM (vo b) b (b + 21) u G1 G1 := vc_own hO hG1 hb
      refine ev_aload_n (k0 := 1) rfl d_PL_acts_129 ?_
      refine ev_iload (i := 7) rfl d_PL_acts_130 ?_
      refine ev_iload (i := 8) rfl d_PL_acts_132 ?_
      refine Ev.z9 (cv_V [.inl (.int (nI ev)), .inl (.int (nI pl))] hO1 vo_0 rfl lk_ProphecyShopLaw_339 (w_Own_happens (d + 7) vo_0 hO1 (e2)) rfl rfl d_PL_acts_134 (aft_rw (fun G2 hO2 => ?_)))
      refine ev_icmp_ne (tgt := 144) (by decide) d_PL_acts_137 (fun c => absurd rfl c) (fun _ => ?_)
      refine cw_iconst 1 d_PL_acts_140 rfl ?_
      refine ev_goto (tgt := 145) (by decide) d_PL_acts_141 ?_
      exact ev_ireturn (st := []) rfl rfl d_PL_acts_145 ⟨rfl, (vc_of hG1).tr (own_of hO2), Or.inr ⟨rfl, μ9, u9, _, _, _, _, own_vc hG1.refl hO2 hb, hO2.refl, e3, e4, e5, by omega⟩⟩
    · rw [if_neg hno]
      exact ev_if_eq (tgt := 121) (by decide) d_PL_acts_116 (fun c => absurd c (by decide)) (fun _ => KN)
set_option maxHeartbeats 1000000 in
theorem act_ask (d : Nat) (hG : LM vc 0 535 μ G G) (hO : LM (vo b) b (b + 21) u G G) (hb : 535 ≤ b) (hH : HIS c0 μ s E P C O h K ps) (hQo : QS c0 μ 0 s b0 v E P C O n w t dd) (hps : ps K = (b0, v)) (hQ : QS c0 μ 0 s b u E P C O n w t dd) (hdd : dd ≤ 3100) (hE1 : 1 ≤ E) (hP1 : 1 ≤ P) {at9 kd vv ww : Nat} (hvv : vv < 10000) (hww : ww < 10000) : Ev g (d + 8) m_PL_acts 153 [some (.inr (0, off 12 0)), some (.inr (0, off 60 b)), some (.inr (1, 90)), some (.inl (.int (nI at9))), some (.inl (.int (nI kd))), some (.inl (.int (nI vv))), some (.inl (.int (nI ww))), none, none, none] [] (G, nx) 0 0 (pAct G nx b c0 μ s E P C O h K dd ps) := by
  obtain ⟨hs2, hE6, hP6, hC8, hO5, ⟨-, a6⟩, ⟨-, a7⟩, ⟨-, a8⟩, ⟨-, a9⟩, -⟩ := hQ.2.1
  obtain ⟨hn, hw, ht, -, -, a5, -, -, a10, -, a12, -, a11, -⟩ := hQ.2.2.1.1
  have r10 := a10
  have r11 := a11
  have r12 := a12
  rw [ro_0 (by omega)] at a5 a6 a7 a8 a10 a11 a12
  refine ev_iload (i := 5) rfl d_PL_acts_153 ?_
  refine cw_iconst 1 d_PL_acts_155 rfl ?_
  refine ev_aload_n (k0 := 1) rfl d_PL_acts_156 ?_
  refine cv_getN (.inl (.int (u 60 b 10))) hO vo_0 gn_190 rfl rfl d_PL_acts_157 ?_
  rw [a10]
  refine ev_mmax (Nat.le_of_ble_eq_true rfl) mm_182 d_PL_acts_160 ?_
  rw [show (if (1 : Int32) < nI n then nI n else 1) = nI (max 1 n) by
    by_cases q : 1 < n
    · rw [if_pos (show (1 : Int32) < nI n from nI_lt (a := 1) q (by omega)), Nat.max_eq_right (by omega)]
    · rw [if_neg (show ¬ (1 : Int32) < nI n from nI_nlt (a := 1) (by omega) (by omega)), Nat.max_eq_left (by omega)]; rfl]
  have hmx : 1 ≤ max 1 n ∧ max 1 n ≤ 24 ∧ (1 ≤ n → max 1 n = n) := by omega
  generalize max 1 n = mx at hmx
  refine ev_irem (ne_0 (by omega) (by omega)) d_PL_acts_163 ?_
  rw [show nI vv - nI vv / (nI mx) * (nI mx) = nI (vv % mx) from rem_nI (d := mx) (by omega) (by omega) (by omega)]
  obtain ⟨k0, hk0, gk0⟩ : ∃ z, z = vv % mx ∧ z < mx := ⟨_, rfl, Nat.mod_lt _ (by omega)⟩
  rw [← hk0]
  refine cw_istoreN 7 (nI k0) rfl [some (.inr (0, off 12 0)), some (.inr (0, off 60 b)), some (.inr (1, 90)), some (.inl (.int (nI at9))), some (.inl (.int (nI kd))), some (.inl (.int (nI vv))), some (.inl (.int (nI ww))), some (.inl (.int (nI k0))), none, none] d_PL_acts_164 rfl rfl rfl ?_
  refine cw_iconst 0 d_PL_acts_166 rfl ?_
  refine cw_istoreN 8 (nI 0) rfl [some (.inr (0, off 12 0)), some (.inr (0, off 60 b)), some (.inr (1, 90)), some (.inl (.int (nI at9))), some (.inl (.int (nI kd))), some (.inl (.int (nI vv))), some (.inl (.int (nI ww))), some (.inl (.int (nI k0))), some (.inl (.int (nI 0))), none] d_PL_acts_167 rfl rfl rfl ?_
  have AFT : ∀ k, k < mx → Ev g (d + 8) m_PL_acts 204 [some (.inr (0, off 12 0)), some (.inr (0, off 60 b)), some (.inr (1, 90)), some (.inl (.int (nI at9))), some (.inl (.int (nI kd))), some (.inl (.int (nI vv))), some (.inl (.int (nI ww))), some (.inl (.int (nI k))), none, none] [] (G, nx) 0 0 (pAct G nx b c0 μ s E P C O h K dd ps) := by
    intro k hk
    have KN : Ev g (d + 8) m_PL_acts 220 [some (.inr (0, off 12 0)), some (.inr (0, off 60 b)), some (.inr (1, 90)), some (.inl (.int (nI at9))), some (.inl (.int (nI kd))), some (.inl (.int (nI vv))), some (.inl (.int (nI ww))), some (.inl (.int (nI k))), none, none] [] (G, nx) 0 0 (pAct G nx b c0 μ s E P C O h K dd ps) := by
      refine cw_iconst (-1) d_PL_acts_220 rfl ?_
      exact ev_ireturn (st := []) rfl rfl d_PL_acts_221 ⟨rfl, OF.rf, Or.inl ⟨rfl, rfl⟩⟩
    refine ev_aload_n (k0 := 1) rfl d_PL_acts_204 ?_
    refine cv_getN (.inl (.int (u 60 b 10))) hO vo_0 gn_190 rfl rfl d_PL_acts_205 ?_
    rw [a10]
    by_cases h0 : n = 0
    · exact ev_if_eq (tgt := 220) (by decide) d_PL_acts_208 (fun _ => KN) (fun c => absurd (by rw [h0]; rfl) c)
    · refine ev_if_eq (tgt := 220) (by decide) d_PL_acts_208 (fun c => absurd c (ne_0 (by omega) (by omega))) (fun _ => ?_)
      refine ev_aload_n (k0 := 1) rfl d_PL_acts_211 ?_
      refine ev_iload (i := 7) rfl d_PL_acts_212 ?_
      refine Ev.z9 (cv_V [.inl (.int (nI k))] hO vo_0 rfl lk_ProphecyShopLaw_133 (w_Own_queued (d + 7) vo_0 hO (O_queued r12 hw)) rfl rfl d_PL_acts_214 (aft_ro ?_))
      refine ev_if_lt (tgt := 222) (by decide) d_PL_acts_217 (fun c => ?_) (fun _ => KN)
      obtain ⟨μ9, e1, hwn, e2, e3, e4⟩ := T_ask hH hQo hps hQ (by omega) (show k < n by omega) (inq_neg hw c)
      refine ev_aload_n (k0 := 1) rfl d_PL_acts_222 ?_
      refine cv_getN (.inr (0, off 77 b)) hO vo_0 gn_236 rfl rfl d_PL_acts_223 ?_
      refine ev_aload_n (k0 := 1) rfl d_PL_acts_226 ?_
      refine cv_getN (.inl (.int (u 60 b 12))) hO vo_0 gn_229 rfl rfl d_PL_acts_227 ?_
      rw [a12]
      refine ev_iload (i := 7) rfl d_PL_acts_230 ?_
      refine cv_iast hO okO (voK (by decide) (by decide)) rfl rfl (show inb (nI w) 24 = true from inb_of (by omega) (by omega)) rfl d_PL_acts_232 (fun G1 hO1 => ?_)
      rw [nI_clamp (by omega)] at hO1
      refine ev_aload_n (k0 := 1) rfl d_PL_acts_233 ?_
      refine ev_dup rfl d_PL_acts_234 ?_
      refine cv_getN (.inl (.int (nI w))) hO1 vo_0 gn_229 rfl (by rw [st3_K (by decide), a12]; rfl) d_PL_acts_235 ?_
      refine cw_iconst 1 d_PL_acts_238 rfl ?_
      refine ev_iadd d_PL_acts_239 ?_
      rw [show nI w + 1 = nI (w + 1) from nI_add w 1]
      refine cv_putN (.inl (.int (nI (w + 1)))) (nI (w + 1)) hO1 okO vo_0 pn_229 rfl rfl okv_int d_PL_acts_240 (fun G2 hO2 => ?_)
      generalize hu2 : st3 (st3 u 77 b w (nI k)) 60 b 12 (nI (w + 1)) = u2 at hO2 e2
      have hG2 : LM vc 0 535 μ G2 G2 := own_vc hG hO2 hb
      refine ev_aload_n (k0 := 0) rfl d_PL_acts_243 ?_
      refine ev_iload (i := 7) rfl d_PL_acts_244 ?_
      refine Ev.z9 (cv_V [.inl (.int (nI k))] hG2 v_12 rfl lk_ProphecyShopLaw_342 (w_P_ask (d + 4) hG2 (e1)) rfl rfl d_PL_acts_246 (aft_rw (fun G3 hG3 => ?_)))
      have hO3 : LM (vo b) b (b + 21) u2 G3 G3 := vc_own hO2 hG3 hb
      refine ev_aload_n (k0 := 1) rfl d_PL_acts_249 ?_
      refine cv_getN (.inl (.int (nI (w + 1)))) hO3 vo_0 gn_229 rfl (by rw [← hu2, st3_ua, ua_S]; rfl) d_PL_acts_250 ?_
      refine ev_icmp_ne (tgt := 260) (by decide) d_PL_acts_253 (fun c => absurd rfl c) (fun _ => ?_)
      refine cw_iconst 1 d_PL_acts_256 rfl ?_
      refine ev_goto (tgt := 261) (by decide) d_PL_acts_257 ?_
      exact ev_ireturn (st := []) rfl rfl d_PL_acts_261 ⟨rfl, (own_of hO2).tr (vc_of hG3), Or.inr ⟨rfl, μ9, u2, _, _, _, _, hG3.refl, hO3, e2, e3, e4, by omega⟩⟩
  suffices HL : ∀ j c k, c + j = n → k < mx → Ev g (d + 8) m_PL_acts 169 [some (.inr (0, off 12 0)), some (.inr (0, off 60 b)), some (.inr (1, 90)), some (.inl (.int (nI at9))), some (.inl (.int (nI kd))), some (.inl (.int (nI vv))), some (.inl (.int (nI ww))), some (.inl (.int (nI k))), some (.inl (.int (nI c))), none] [] (G, nx) 0 0 (pAct G nx b c0 μ s E P C O h K dd ps) from HL n 0 k0 (by omega) gk0
  intro j
  induction j with
  | zero =>
    intro c k hc hk
    refine ev_iload (i := 8) rfl d_PL_acts_169 ?_
    refine ev_aload_n (k0 := 1) rfl d_PL_acts_171 ?_
    refine cv_getN (.inl (.int (u 60 b 10))) hO vo_0 gn_190 rfl rfl d_PL_acts_172 ?_
    rw [a10]
    refine ev_icmp_ge (tgt := 204) (by decide) d_PL_acts_175 (fun _ => ?_) (fun q => absurd (nI_le (show n ≤ c by omega) (by omega)) q)
    refine Ev.sub (ls' := [some (.inr (0, off 12 0)), some (.inr (0, off 60 b)), some (.inr (1, 90)), some (.inl (.int (nI at9))), some (.inl (.int (nI kd))), some (.inl (.int (nI vv))), some (.inl (.int (nI ww))), some (.inl (.int (nI k))), none, none]) (LSb.s (LSb.s (LSb.s (LSb.s (LSb.s (LSb.s (LSb.s (LSb.s (LSb.n (LSb.n LSb.z)))))))))) ?_
    exact AFT k hk
  | succ j ih =>
    intro c k hc hk
    refine ev_iload (i := 8) rfl d_PL_acts_169 ?_
    refine ev_aload_n (k0 := 1) rfl d_PL_acts_171 ?_
    refine cv_getN (.inl (.int (u 60 b 10))) hO vo_0 gn_190 rfl rfl d_PL_acts_172 ?_
    rw [a10]
    refine ev_icmp_ge (tgt := 204) (by decide) d_PL_acts_175 (fun q => absurd q (nI_ge (show c < n by omega) (by omega))) (fun _ => ?_)
    refine ev_aload_n (k0 := 1) rfl d_PL_acts_178 ?_
    refine ev_iload (i := 7) rfl d_PL_acts_179 ?_
    refine Ev.z9 (cv_V [.inl (.int (nI k))] hO vo_0 rfl lk_ProphecyShopLaw_133 (w_Own_queued (d + 7) vo_0 hO (O_queued r12 hw)) rfl rfl d_PL_acts_181 (aft_ro ?_))
    refine ev_if_lt (tgt := 204) (by decide) d_PL_acts_184 (fun _ => ?_) (fun _ => ?_)
    · refine Ev.sub (ls' := [some (.inr (0, off 12 0)), some (.inr (0, off 60 b)), some (.inr (1, 90)), some (.inl (.int (nI at9))), some (.inl (.int (nI kd))), some (.inl (.int (nI vv))), some (.inl (.int (nI ww))), some (.inl (.int (nI k))), none, none]) (LSb.s (LSb.s (LSb.s (LSb.s (LSb.s (LSb.s (LSb.s (LSb.s (LSb.n (LSb.n LSb.z)))))))))) ?_
      exact AFT k hk
    · refine ev_iload (i := 7) rfl d_PL_acts_187 ?_
      refine cw_iconst 1 d_PL_acts_189 rfl ?_
      refine ev_iadd d_PL_acts_190 ?_
      rw [show nI k + 1 = nI (k + 1) from nI_add k 1]
      refine ev_aload_n (k0 := 1) rfl d_PL_acts_191 ?_
      refine cv_getN (.inl (.int (u 60 b 10))) hO vo_0 gn_190 rfl rfl d_PL_acts_192 ?_
      rw [a10]
      refine ev_irem (ne_0 (by omega) (by omega)) d_PL_acts_195 ?_
      rw [show nI (k + 1) - nI (k + 1) / (nI n) * (nI n) = nI ((k + 1) % n) from rem_nI (d := n) (by omega) (by omega) (by omega)]
      refine cw_istoreN 7 (nI ((k + 1) % n)) rfl [some (.inr (0, off 12 0)), some (.inr (0, off 60 b)), some (.inr (1, 90)), some (.inl (.int (nI at9))), some (.inl (.int (nI kd))), some (.inl (.int (nI vv))), some (.inl (.int (nI ww))), some (.inl (.int (nI ((k + 1) % n)))), some (.inl (.int (nI c))), none] d_PL_acts_196 rfl rfl rfl ?_
      refine cw_iincN 8 1 [some (.inr (0, off 12 0)), some (.inr (0, off 60 b)), some (.inr (1, 90)), some (.inl (.int (nI at9))), some (.inl (.int (nI kd))), some (.inl (.int (nI vv))), some (.inl (.int (nI ww))), some (.inl (.int (nI ((k + 1) % n)))), some (.inl (.int (nI (c + 1)))), none] d_PL_acts_198 rfl rfl rfl rfl (by rw [show nI (c + 1) = nI c + 1 from (nI_add _ _).symm]; rfl) ?_
      refine ev_goto (tgt := 169) (by decide) d_PL_acts_201 ?_
      exact ih (c + 1) ((k + 1) % n) (by omega) (by have := Nat.mod_lt (k + 1) (show 0 < n by omega); omega)
set_option maxHeartbeats 1000000 in
theorem act_days (d : Nat) (hG : LM vc 0 535 μ G G) (hO : LM (vo b) b (b + 21) u G G) (hb : 535 ≤ b) (hH : HIS c0 μ s E P C O h K ps) (hQo : QS c0 μ 0 s b0 v E P C O n w t dd) (hps : ps K = (b0, v)) (hQ : QS c0 μ 0 s b u E P C O n w t dd) (hdd : dd ≤ 3100) (hE1 : 1 ≤ E) (hP1 : 1 ≤ P) {at9 kd vv ww : Nat} (hkd : kd < 16) (hvv : vv < 10000) (hww : ww < 10000) : Ev g (d + 8) m_PL_acts 262 [some (.inr (0, off 12 0)), some (.inr (0, off 60 b)), some (.inr (1, 90)), some (.inl (.int (nI at9))), some (.inl (.int (nI kd))), some (.inl (.int (nI vv))), some (.inl (.int (nI ww))), none, none, none] [] (G, nx) 0 0 (pAct G nx b c0 μ s E P C O h K dd ps) := by
  obtain ⟨hs2, hE6, hP6, hC8, hO5, ⟨-, a6⟩, ⟨-, a7⟩, ⟨-, a8⟩, ⟨-, a9⟩, -⟩ := hQ.2.1
  obtain ⟨hn, hw, ht, -, -, a5, -, -, a10, -, a12, -, a11, -⟩ := hQ.2.2.1.1
  have r10 := a10
  have r11 := a11
  have r12 := a12
  rw [ro_0 (by omega)] at a5 a6 a7 a8 a10 a11 a12
  refine ev_aload_n (k0 := 1) rfl d_PL_acts_262 ?_
  refine cv_getN (.inl (.int (u 60 b 13))) hO vo_0 gn_270 rfl rfl d_PL_acts_263 ?_
  refine cw_istoreN 7 (u 60 b 13) rfl [some (.inr (0, off 12 0)), some (.inr (0, off 60 b)), some (.inr (1, 90)), some (.inl (.int (nI at9))), some (.inl (.int (nI kd))), some (.inl (.int (nI vv))), some (.inl (.int (nI ww))), some (.inl (.int (u 60 b 13))), none, none] d_PL_acts_266 rfl rfl rfl ?_
  have DAY : ∀ k, 1 ≤ k → k ≤ 60 → Ev g (d + 8) m_PL_acts 291 [some (.inr (0, off 12 0)), some (.inr (0, off 60 b)), some (.inr (1, 90)), some (.inl (.int (nI at9))), some (.inl (.int (nI kd))), some (.inl (.int (nI vv))), some (.inl (.int (nI ww))), some (.inl (.int (u 60 b 13))), none, none] [.inl (.int (nI k))] (G, nx) 0 0 (pAct G nx b c0 μ s E P C O h K dd ps) := by
    intro k hk1 hk2
    obtain ⟨μ9, u9, w9, e1, e2, e3, e4, e5⟩ := T_advance hH hQo hps hQ hk1 hk2 (by omega)
    refine cw_istoreN 8 (nI k) rfl [some (.inr (0, off 12 0)), some (.inr (0, off 60 b)), some (.inr (1, 90)), some (.inl (.int (nI at9))), some (.inl (.int (nI kd))), some (.inl (.int (nI vv))), some (.inl (.int (nI ww))), some (.inl (.int (u 60 b 13))), some (.inl (.int (nI k))), none] d_PL_acts_291 rfl rfl rfl ?_
    refine cw_iconst 0 d_PL_acts_293 rfl ?_
    refine cw_istoreN 9 (nI 0) rfl [some (.inr (0, off 12 0)), some (.inr (0, off 60 b)), some (.inr (1, 90)), some (.inl (.int (nI at9))), some (.inl (.int (nI kd))), some (.inl (.int (nI vv))), some (.inl (.int (nI ww))), some (.inl (.int (u 60 b 13))), some (.inl (.int (nI k))), some (.inl (.int (nI 0)))] d_PL_acts_294 rfl rfl rfl ?_
    suffices HL : ∀ j i ui Gi, i + j = k → psN b i u = some ui → LM (vo b) b (b + 21) ui G Gi → Ev g (d + 8) m_PL_acts 296 [some (.inr (0, off 12 0)), some (.inr (0, off 60 b)), some (.inr (1, 90)), some (.inl (.int (nI at9))), some (.inl (.int (nI kd))), some (.inl (.int (nI vv))), some (.inl (.int (nI ww))), some (.inl (.int (u 60 b 13))), some (.inl (.int (nI k))), some (.inl (.int (nI i)))] [] (Gi, nx) 0 0 (pAct G nx b c0 μ s E P C O h K dd ps) from HL k 0 u G (by omega) rfl hO
    intro j
    induction j with
    | zero =>
      intro i ui Gi hi hp hOi
      obtain rfl : i = k := by omega
      refine ev_iload (i := 9) rfl d_PL_acts_296 ?_
      refine ev_iload (i := 8) rfl d_PL_acts_298 ?_
      refine ev_icmp_ge (tgt := 313) (by decide) d_PL_acts_300 (fun _ => ?_) (fun c => absurd (nI_le (Nat.le_refl _) (by omega)) c)
      obtain rfl : ui = u9 := Option.some.inj (hp.symm.trans e2)
      have hGi : LM vc 0 535 μ Gi Gi := own_vc hG hOi hb
      refine ev_aload_n (k0 := 0) rfl d_PL_acts_313 ?_
      refine ev_iload (i := 8) rfl d_PL_acts_314 ?_
      refine Ev.z9 (cv_V [.inl (.int (nI i))] hGi v_12 rfl lk_ProphecyShopLaw_345 (w_P_advance (d + 2) hGi (e1)) rfl rfl d_PL_acts_316 (aft_rw (fun G3 hG3 => ?_)))
      have hO3 : LM (vo b) b (b + 21) ui G3 G3 := vc_own hOi hG3 hb
      refine ev_aload_n (k0 := 1) rfl d_PL_acts_319 ?_
      refine cv_getN (.inl (.int (ui 60 b 13))) hO3 vo_0 gn_270 rfl rfl d_PL_acts_320 ?_
      refine ev_iload (i := 7) rfl d_PL_acts_323 ?_
      refine ev_isub d_PL_acts_325 ?_
      refine ev_icmp_ne (tgt := 333) (by decide) d_PL_acts_326 (fun c => absurd rfl c) (fun _ => ?_)
      refine cw_iconst 1 d_PL_acts_329 rfl ?_
      refine ev_goto (tgt := 334) (by decide) d_PL_acts_330 ?_
      exact ev_ireturn (st := []) rfl rfl d_PL_acts_334 ⟨rfl, (own_of hOi).tr (vc_of hG3), Or.inr ⟨rfl, μ9, ui, _, _, _, _, hG3.refl, hO3, e3, e4, e5, by omega⟩⟩
    | succ j ih =>
      intro i ui Gi hi hp hOi
      refine ev_iload (i := 9) rfl d_PL_acts_296 ?_
      refine ev_iload (i := 8) rfl d_PL_acts_298 ?_
      refine ev_icmp_ge (tgt := 313) (by decide) d_PL_acts_300 (fun c => absurd c (nI_ge (show i < k by omega) (by omega))) (fun _ => ?_)
      obtain ⟨u2, hp2⟩ := psN_pre (i := i + 1) e2 (by omega)
      have hs2 : f_Own_passes b ui = some u2 := by
        have z : (psN b i u).bind (f_Own_passes b) = some u2 := hp2
        rw [hp] at z
        exact z
      refine ev_aload_n (k0 := 1) rfl d_PL_acts_303 ?_
      refine Ev.z9 (cv_V [] hOi vo_0 rfl lk_ProphecyShopLaw_309 (w_Own_passes (d + 5) vo_0 hOi (hs2)) rfl rfl d_PL_acts_304 (aft_rw (fun G2 hO2 => ?_)))
      refine cw_iincN 9 1 [some (.inr (0, off 12 0)), some (.inr (0, off 60 b)), some (.inr (1, 90)), some (.inl (.int (nI at9))), some (.inl (.int (nI kd))), some (.inl (.int (nI vv))), some (.inl (.int (nI ww))), some (.inl (.int (u 60 b 13))), some (.inl (.int (nI k))), some (.inl (.int (nI (i + 1))))] d_PL_acts_307 rfl rfl rfl rfl (by rw [show nI (i + 1) = nI i + 1 from (nI_add _ _).symm]; rfl) ?_
      refine ev_goto (tgt := 296) (by decide) d_PL_acts_310 ?_
      exact ih (i + 1) u2 G2 (by omega) hp2 hO2
  refine ev_iload (i := 4) rfl d_PL_acts_268 ?_
  refine cw_bipush 12 d_PL_acts_270 rfl ?_
  refine ev_icmp_ne (tgt := 285) (by decide) d_PL_acts_272 (fun _ => ?_) (fun _ => ?_)
  · refine cw_iconst 1 d_PL_acts_285 rfl ?_
    refine ev_iload (i := 5) rfl d_PL_acts_286 ?_
    refine cw_iconst 5 d_PL_acts_288 rfl ?_
    refine ev_irem (by decide) d_PL_acts_289 ?_
    rw [show nI vv - nI vv / 5 * 5 = nI (vv % 5) from rem_nI (d := 5) (by omega) (by omega) (by omega)]
    refine ev_iadd d_PL_acts_290 ?_
    rw [show (1 : Int32) + nI (vv % 5) = nI (1 + (vv % 5)) from nI_add 1 (vv % 5)]
    exact DAY _ (by omega) (by have := Nat.mod_lt vv (show 0 < 5 by decide); omega)
  · refine cw_iconst 1 d_PL_acts_275 rfl ?_
    refine ev_iload (i := 5) rfl d_PL_acts_276 ?_
    refine cw_bipush 60 d_PL_acts_278 rfl ?_
    refine ev_irem (by decide) d_PL_acts_280 ?_
    rw [show nI vv - nI vv / 60 * 60 = nI (vv % 60) from rem_nI (d := 60) (by omega) (by omega) (by omega)]
    refine ev_iadd d_PL_acts_281 ?_
    rw [show (1 : Int32) + nI (vv % 60) = nI (1 + (vv % 60)) from nI_add 1 (vv % 60)]
    refine ev_goto (tgt := 291) (by decide) d_PL_acts_282 ?_
    exact DAY _ (by omega) (by have := Nat.mod_lt vv (show 0 < 60 by decide); omega)
theorem M_acts (d : Nat) (hA : AR g) (hG : LM vc 0 535 μ G G) (hO : LM (vo b) b (b + 21) u G G) (hb : 535 ≤ b) (hH : HIS c0 μ s E P C O h K ps) (hQo : QS c0 μ 0 s b0 v E P C O n w t dd) (hps : ps K = (b0, v)) (hQ : QS c0 μ 0 s b u E P C O n w t dd) (hdd : dd ≤ 3100) (hE1 : 1 ≤ E) (hP1 : 1 ≤ P) {at9 : Nat} (hat : at9 ≤ 600) : Mt g (d + 8) m_PL_acts [.inr (0, off 12 0), .inr (0, off 60 b), .inr (1, 90), .inl (.int (nI at9))] (G, nx) 0 0 (pAct G nx b c0 μ s E P C O h K dd ps) := by
  obtain ⟨hs2, hE6, hP6, hC8, hO5, ⟨-, a6⟩, ⟨-, a7⟩, ⟨-, a8⟩, ⟨-, a9⟩, -⟩ := hQ.2.1
  obtain ⟨hn, hw, ht, -, -, a5, -, -, a10, -, a12, -, a11, -⟩ := hQ.2.2.1.1
  have r10 := a10
  have r11 := a11
  have r12 := a12
  rw [ro_0 (by omega)] at a5 a6 a7 a8 a10 a11 a12
  refine Mt.of9 [some (.inr (0, off 12 0)), some (.inr (0, off 60 b)), some (.inr (1, 90)), some (.inl (.int (nI at9))), none, none, none, none, none, none] (by decide +kernel) rfl rfl rfl rfl ?_
  refine ev_aload_n (k0 := 2) rfl d_PL_acts_0 ?_
  refine ev_iload_n (k0 := 3) rfl d_PL_acts_1 ?_
  refine cw_bipush 16 d_PL_acts_2 rfl ?_
  refine Ev.z9 (cw_S [.inr (1, 90), .inl (.int (nI at9)), .inl (.int (nI 16))] lk_ProphecyShopLaw_325 (M_pick (d + 6) hA (by omega) (by omega) (by omega)) rfl rfl d_PL_acts_4 ⟨fun w9 M9 hP => ?_, fun E9 M9 hP => by obtain ⟨-, j9, -, hv⟩ := hP; cases hv⟩)
  obtain ⟨hM9, kd, gkd, hv⟩ := hP
  subst hM9
  cases hv
  refine cw_istoreN 4 (nI kd) rfl [some (.inr (0, off 12 0)), some (.inr (0, off 60 b)), some (.inr (1, 90)), some (.inl (.int (nI at9))), some (.inl (.int (nI kd))), none, none, none, none, none] d_PL_acts_7 rfl rfl rfl ?_
  refine ev_aload_n (k0 := 2) rfl d_PL_acts_9 ?_
  refine ev_iload_n (k0 := 3) rfl d_PL_acts_10 ?_
  refine cw_iconst 1 d_PL_acts_11 rfl ?_
  refine ev_iadd d_PL_acts_12 ?_
  rw [show nI at9 + 1 = nI (at9 + 1) from nI_add at9 1]
  refine cw_sipush 10000 d_PL_acts_13 rfl ?_
  refine Ev.z9 (cw_S [.inr (1, 90), .inl (.int (nI (at9 + 1))), .inl (.int (nI 10000))] lk_ProphecyShopLaw_325 (M_pick (d + 6) hA (by omega) (by omega) (by omega)) rfl rfl d_PL_acts_16 ⟨fun w9 M9 hP => ?_, fun E9 M9 hP => by obtain ⟨-, j9, -, hv⟩ := hP; cases hv⟩)
  obtain ⟨hM9, vv, gvv, hv⟩ := hP
  subst hM9
  cases hv
  refine cw_istoreN 5 (nI vv) rfl [some (.inr (0, off 12 0)), some (.inr (0, off 60 b)), some (.inr (1, 90)), some (.inl (.int (nI at9))), some (.inl (.int (nI kd))), some (.inl (.int (nI vv))), none, none, none, none] d_PL_acts_19 rfl rfl rfl ?_
  refine ev_aload_n (k0 := 2) rfl d_PL_acts_21 ?_
  refine ev_iload_n (k0 := 3) rfl d_PL_acts_22 ?_
  refine cw_iconst 2 d_PL_acts_23 rfl ?_
  refine ev_iadd d_PL_acts_24 ?_
  rw [show nI at9 + 2 = nI (at9 + 2) from nI_add at9 2]
  refine cw_sipush 10000 d_PL_acts_25 rfl ?_
  refine Ev.z9 (cw_S [.inr (1, 90), .inl (.int (nI (at9 + 2))), .inl (.int (nI 10000))] lk_ProphecyShopLaw_325 (M_pick (d + 6) hA (by omega) (by omega) (by omega)) rfl rfl d_PL_acts_28 ⟨fun w9 M9 hP => ?_, fun E9 M9 hP => by obtain ⟨-, j9, -, hv⟩ := hP; cases hv⟩)
  obtain ⟨hM9, ww, gww, hv⟩ := hP
  subst hM9
  cases hv
  refine cw_istoreN 6 (nI ww) rfl [some (.inr (0, off 12 0)), some (.inr (0, off 60 b)), some (.inr (1, 90)), some (.inl (.int (nI at9))), some (.inl (.int (nI kd))), some (.inl (.int (nI vv))), some (.inl (.int (nI ww))), none, none, none] d_PL_acts_31 rfl rfl rfl ?_
  refine ev_iload (i := 4) rfl d_PL_acts_33 ?_
  refine cw_iconst 5 d_PL_acts_35 rfl ?_
  refine ev_icmp_ge (tgt := 70) (by decide) d_PL_acts_36 (fun _ => ?_) (fun _ => ?_)
  · refine ev_iload (i := 4) rfl d_PL_acts_70 ?_
    refine cw_bipush 8 d_PL_acts_72 rfl ?_
    refine ev_icmp_ge (tgt := 146) (by decide) d_PL_acts_74 (fun _ => ?_) (fun _ => act_happen d hG hO hb hH hQo hps hQ hdd hE1 hP1 gvv gww)
    refine ev_iload (i := 4) rfl d_PL_acts_146 ?_
    refine cw_bipush 12 d_PL_acts_148 rfl ?_
    exact ev_icmp_ge (tgt := 262) (by decide) d_PL_acts_150 (fun _ => act_days d hG hO hb hH hQo hps hQ hdd hE1 hP1 gkd gvv gww) (fun _ => act_ask d hG hO hb hH hQo hps hQ hdd hE1 hP1 gvv gww)
  · refine ev_aload_n (k0 := 1) rfl d_PL_acts_39 ?_
    refine cv_getN (.inl (.int (u 60 b 8))) hO vo_0 gn_203 rfl rfl d_PL_acts_40 ?_
    rw [a8]
    by_cases hC0 : C = 0
    · refine ev_if_ne (tgt := 50) (by decide) d_PL_acts_43 (fun c => absurd (by rw [hC0]; rfl) c) (fun _ => ?_)
      refine cw_iconst (-1) d_PL_acts_46 rfl ?_
      refine ev_goto (tgt := 69) (by decide) d_PL_acts_47 ?_
      exact ev_ireturn (st := []) rfl rfl d_PL_acts_69 ⟨rfl, OF.rf, Or.inl ⟨rfl, rfl⟩⟩
    · refine ev_if_ne (tgt := 50) (by decide) d_PL_acts_43 (fun _ => ?_) (fun c => absurd c (ne_0 (by omega) (by omega)))
      refine ev_aload_n (k0 := 0) rfl d_PL_acts_50 ?_
      refine ev_aload_n (k0 := 1) rfl d_PL_acts_51 ?_
      refine ev_iload (i := 5) rfl d_PL_acts_52 ?_
      refine cw_bipush 108 d_PL_acts_54 rfl ?_
      refine ev_idiv (by decide) d_PL_acts_56 ?_
      rw [show nI vv / 108 = nI (vv / 108) from pk_div (d := 108) (by omega) (by omega) (by omega)]
      refine ev_aload_n (k0 := 1) rfl d_PL_acts_57 ?_
      refine cv_getN (.inl (.int (u 60 b 8))) hO vo_0 gn_203 rfl rfl d_PL_acts_58 ?_
      rw [a8]
      refine ev_irem (ne_0 (by omega) (by omega)) d_PL_acts_61 ?_
      rw [show nI (vv / 108) - nI (vv / 108) / (nI C) * (nI C) = nI ((vv / 108) % C) from rem_nI (d := C) (by omega) (by omega) (by omega)]
      refine ev_iload (i := 5) rfl d_PL_acts_62 ?_
      refine ev_iload (i := 6) rfl d_PL_acts_64 ?_
      refine Ev.z9 (cw_S [.inr (0, off 12 0), .inr (0, off 60 b), .inl (.int (nI (vv / 108 % C))), .inl (.int (nI vv)), .inl (.int (nI ww))] lk_ProphecyShopLaw_329 (M_sells d hG hO hb hH hQo hps hQ hdd hE1 hP1 (Nat.mod_lt _ (by omega)) gvv gww) rfl rfl d_PL_acts_66 ⟨fun w9 M9 hP => ?_, fun E9 M9 hP => ?_⟩)
      · have hP0 := hP
        obtain ⟨-, -, ⟨hv, -⟩ | ⟨hv, -⟩⟩ := hP
        · cases hv
          exact ev_ireturn (st := []) rfl rfl d_PL_acts_69 hP0
        · cases hv
          exact ev_ireturn (st := []) rfl rfl d_PL_acts_69 hP0
      · obtain ⟨-, -, ⟨hv, -⟩ | ⟨hv, -⟩⟩ := hP <;> cases hv
end Acts

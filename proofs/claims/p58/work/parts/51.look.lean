/-! The law looks at a prophecy. -/
/-- what a look returns, and what it leaves -/
def pLk (G : RG) (nx k : Nat) (μ : Mem) : RO → RM → Prop := fun r M' => r = rI 1 ∧ ∃ μ', LM vc 0 535 μ' M'.1 M'.1 ∧ FrL μ μ' ∧ KB nx G M'.1 ∧ nx ≤ M'.2 ∧ M'.2 ≤ nx + k
theorem okW {t : List Nat} {i : Nat} (h : ∀ x ∈ t, x < 128) (hi : i < t.length) : t.getD i 0 < 128 := by
  rw [List.getD_eq_getElem?_getD, List.getElem?_eq_getElem hi]
  exact h _ (List.getElem_mem hi)
theorem digs_128 {d : Nat} : ∀ x ∈ digs d, x < 128 := fun x hx => by
  unfold digs at hx
  obtain ⟨j, -, rfl⟩ := List.mem_map.mp hx
  have : d / 10 ^ (dl d - 1 - j) % 10 < 10 := Nat.mod_lt _ (by decide)
  omega
theorem STo.keep {G G' : RG} {s v len : Nat} {tx : Nat → Int32} (h : STo G s v len tx) (h1 : G' s = G s) (h2 : G' v = G v) : STo G' s v len tx := by
  obtain ⟨n, f, bf, e1, e2, e3, e4, e5⟩ := h
  exact ⟨n, f, bf, h1.trans e1, e2, e3, h2.trans e4, e5⟩
theorem BI.len {B : Nat} {G0 : RG} {n0 o b : Nat} {l : List Nat} {M : RM} (h : BI B G0 n0 o b l M) : l.length ≤ 2 * B := by
  obtain ⟨a, cap, h1, -⟩ := h
  have a1 := h1.2.2.2.2.2.1
  have a2 := h1.2.2.2.2.2.2
  omega
section Pr
theorem BI.re {B : Nat} {G0 G G' : RG} {n0 o b k nx nx' : Nat} {l : List Nat} (h : BI B G0 n0 o b l (G, nx)) (hn0 : 535 ≤ n0) (hk : KB nx G G') (hn : nx ≤ nx' ∧ nx' ≤ nx + k) : BI B G' n0 o (b + k) l (G', nx') := by
  obtain ⟨a, cap, h1, h2, h3, h4⟩ := h
  exact ⟨a, cap, h1.more hn.1 (hk o (by omega) h1.2.2.2.1) (hk a (by have := h3.1; omega) h1.2.2.2.2.1), h2, ⟨h3.1, by have := h3.2; have := hn.2; show nx' ≤ n0 + (b + k); omega⟩, fun _ _ => rfl⟩
theorem ev_toStr2 {g : GL} {d : Nat} {mi : MI} {pc : Nat} {ls : List (Option RV)} {st : List RV} {mc ms : Nat} {Post : RO → RM → Prop} {G0 G : RG} {B n0 o b idx nx : Nat} {l : List Nat} (hb : BI B G0 n0 o b l (G, nx)) (lk : LV mi.1.cls idx 1 0 m_StringBuilder_toString_0e30d) (hst : Nat.ble st.length 4 = true) (hd : decode mi.2.1 pc = .ok (.invokevirtual idx, 3)) (k : ∀ G', STo G' nx (nx + 1) l.length (ltx l) → (∀ q, q < nx → G' q = G q) → Ev g (d + 6) mi (pc + 3) ls (.inr (0, nx) :: st) (G', nx + 2) mc ms Post) : Ev g (d + 6) mi pc ls (.inr (0, o) :: st) (G, nx) (2 + mc) (2 * B + 4 + ms) Post := by
  obtain ⟨a, cap, h1, h2, h3, h4⟩ := hb
  obtain ⟨n, f, ho, -⟩ := id h1.1
  have hlc : l.length ≤ 4000 := by
    have a1 := h1.2.2.2.2.2.1
    have a2 := h1.2.2.2.2.2.2
    omega
  refine ev_invV (d := d + 5) (vs := []) (M := (G, nx)) (r := (0, o)) (ci := 1) ho lk (M_toString d h1 hlc) rfl (Nat.le_of_ble_eq_true hst) hd ⟨fun w M' hP => ?_, fun E M' hP => ?_⟩
  · obtain ⟨hw, p1, p2, p3⟩ := hP
    cases hw
    obtain ⟨G', nx'⟩ := M'
    have p1' : nx' = nx + 2 := p1
    subst p1'
    exact k G' p2 p3
  · obtain ⟨hw, -⟩ := hP
    cases hw
variable {g : GL} {G : RG} {c0 : Int32} {μ v : Mem} {s b E P C O n w t dd nx : Nat}
set_option maxHeartbeats 1000000 in
theorem M_isProphecy (d : Nat) (hD : DG g) (hS : SG g) (hG : LM vc 0 535 μ G G) (hO : LM (vo b) b (b + 21) v G G) (hb : 535 ≤ b) (hb2 : b + 21 ≤ nx) (hnx : nx < 2 ^ 29) (hQ : QS c0 μ 0 s b v E P C O n w t dd) (h12 : μ 12 0 3 = nI s) {k : Nat} (hk : k < n) : Mt g (d + 7) m_PL_isProphecy [.inr (0, off 12 0), .inr (0, off 60 b), .inl (.int (nI k))] (G, nx) 71 2626 (pLk G nx 80 μ) := by
  have h24 := P_lt hQ hk
  have hpt9 := T_ptx hQ h12 hk
  obtain ⟨⟨c, hc, -, m0⟩, ⟨e, he, -, m1⟩, hkk, ⟨d1, hd1, -, m4⟩, ⟨d2, hd2, -, m5⟩, -⟩ := P_row hQ hk
  obtain ⟨hs2, hE6, hP6, hC8, -⟩ := hQ.2.1
  rw [ro_p0 h24] at m0
  rw [ro_p1 h24] at m1
  rw [ro_p4 h24] at m4
  rw [ro_p5 h24] at m5
  rw [ro_p2 h24, ro_p3 h24] at hkk
  have m3 : v 70 b k = -1 ∨ ∃ l, l < P ∧ v 70 b k = nI l := by
    rcases hkk with ⟨-, -, z, -⟩ | ⟨-, ⟨l, h1, -, h2⟩, -⟩ | ⟨-, ⟨l, h1, -, h2⟩, -⟩
    · exact Or.inl z
    · exact Or.inr ⟨l, h1, h2⟩
    · exact Or.inr ⟨l, h1, h2⟩
  have y1 := dl20 hd1
  have y2 := dl20 hd2
  have hS9 := hQ.2.2.1.1
  obtain ⟨hn, hw, -, hdd, -, a5, -, -, -, -, a12, -⟩ := hS9
  have hpx : ∀ x ∈ ptx v b k, x < 128 := by
    unfold ptx nm2
    rw [m0, m1, nI_clamp (by omega), nI_clamp (by omega)]
    intro x hx
    simp only [List.mem_append, List.mem_cons, List.not_mem_nil, or_false] at hx
    rcases hx with ((((((((h | h) | h) | h) | h) | h) | h) | h) | h) | h
    · omega
    · omega
    · split at h <;> simp at h
      omega
    · omega
    · omega
    · rcases m3 with z | ⟨l, hl, z⟩
      · rw [z, if_pos (by decide)] at h
        simp at h
        omega
      · rw [z, if_neg (nI_neg1 (by omega)), nI_clamp (by omega)] at h
        simp at h
        omega
    · omega
    · exact digs_128 x h
    · omega
    · exact digs_128 x h
  -- the text is compared with what the class writes
  have KZ : ∀ (M : RM) (bb : Nat), BI 24 G nx nx bb (ptx v b k) M → bb ≤ 29 → Ev g (d + 7) m_PL_isProphecy 115 [some (.inr (0, off 12 0)), some (.inr (0, off 60 b)), some (.inl (.int (nI k))), none, none] [.inr (0, nx)] M 42 1958 (pLk G nx 80 μ) := by
    intro M bb hB hbb
    have n9 := hB.nx
    obtain ⟨G9, nx9⟩ := M
    have hG9 : LM vc 0 535 μ G9 G9 := hB.lm (by omega) hG
    have hF9 : ∀ q, q < nx → G9 q = G q := by obtain ⟨-, -, -, -, -, h⟩ := hB; exact h
    have hO9 : LM (vo b) b (b + 21) v G9 G9 := KB.own (nx := nx) (fun q _ h => hF9 q h) hO hb hb2
    have hx9 : nx9 ≤ nx + bb := by obtain ⟨_, _, _, _, h, _⟩ := id hB; exact h.2
    have K3 : Ev g (d + 7) m_PL_isProphecy 336 [some (.inr (0, off 12 0)), some (.inr (0, off 60 b)), some (.inl (.int (nI k))), some (.inr (0, nx)), some (.inl (.int 1))] [] (G9, nx9) 42 1958 (pLk G nx 80 μ) := by
      refine cw_iconst 1 d_PL_isProphecy_336 rfl ?_
      refine ev_goto (tgt := 341) (by decide) d_PL_isProphecy_337 ?_
      refine cw_istoreN 4 1 rfl [some (.inr (0, off 12 0)), some (.inr (0, off 60 b)), some (.inl (.int (nI k))), some (.inr (0, nx)), some (.inl (.int 1))] d_PL_isProphecy_341 rfl rfl rfl ?_
      refine ev_iload (i := 4) rfl d_PL_isProphecy_343 ?_
      refine ev_if_eq (tgt := 368) (by decide) d_PL_isProphecy_345 (fun c => absurd c (by decide)) (fun _ => ?_)
      refine ev_aload_n (k0 := 0) rfl d_PL_isProphecy_348 ?_
      refine ev_aload_n (k0 := 0) rfl d_PL_isProphecy_349 ?_
      refine ev_iload_n (k0 := 2) rfl d_PL_isProphecy_350 ?_
      refine Ev.room (mc := 40 + 2) (ms := 1906 + 52) (cv_V (d := d + 6) [.inl (.int (nI k))] hG9 v_12 rfl lk_ProphecyShopLaw_155 (M_writeProphecy d hD hG9 (by omega) (by omega) (P_with hQ hk) hpt9) rfl rfl d_PL_isProphecy_351 ⟨fun w9 M9 hP => ?_, fun E9 M9 hP => ?_⟩) (by omega) (by omega)
      · obtain ⟨hw9, s9, p1, p2, p3, p4, p5, p6⟩ := hP
        cases hw9
        obtain ⟨G8, nx8⟩ := M9
        replace p2 : s9 + 2 = nx8 := p2
        have hB8 := hB.re (by omega) (nx' := nx8) (k := 42) p6 ⟨by omega, by omega⟩
        refine ev_aload_n (k0 := 3) rfl d_PL_isProphecy_354 ?_
        refine Ev.room (mc := 2 + 0) (ms := 2 * 24 + 4 + 0) (ev_toStr2 (d := d + 1) hB8 lj_ProphecyShopLaw_44_1 rfl d_PL_isProphecy_355 (fun G7 hT hF => ?_)) (by omega) (by omega)
        have hG7 : LM vc 0 535 (st3 μ 12 0 12 (nI s9)) G7 G7 := ⟨fun K j hv => (hF _ (by have := (okC.2 K j hv).2; omega)).trans (p4.1 K j hv), fun _ _ => rfl⟩
        have hlen : (ptx v b k).length ≤ 71 := by have := hB.len; omega
        have h128 : ∀ i, i < (ptx v b k).length → (ptx v b k).getD i 0 < 128 := fun i hi => okW hpx hi
        have hOu : OUTR G7 (nx8 + 2) ((st3 μ 12 0 12 (nI s9)) 12 0 12) (ptx v b k) := ⟨hlen, h128, Or.inr ⟨s9, by rw [st3_ua, ua_S], by omega, by omega, by omega, STo.keep p5 (hF _ (by omega)) (hF _ (by omega))⟩⟩
        refine Ev.z9 (cw_S [.inr (0, off 12 0), .inl (.int (nI (ptx v b k).length)), .inr (0, nx8)] lk_ProphecyShopLaw_158 (M_isOutput (d + 1) hS hG7 hOu (SR.ofSTo hT (fun i _ => rfl) h128 (by omega) (by omega))) rfl rfl d_PL_isProphecy_358 (aft_ro ?_))
        refine ev_if_eq (tgt := 368) (by decide) d_PL_isProphecy_361 (fun c => absurd c (by decide)) (fun _ => ?_)
        refine cw_iconst 1 d_PL_isProphecy_364 rfl ?_
        refine ev_goto (tgt := 369) (by decide) d_PL_isProphecy_365 ?_
        exact ev_ireturn (st := []) rfl rfl d_PL_isProphecy_369 ⟨rfl, _, hG7, FrL.out, fun q q1 q2 => (hF q (by omega)).trans ((p6 q q1 (by omega)).trans (hF9 q q2)), by show nx ≤ nx8 + 2; omega, by show nx8 + 2 ≤ nx + 80; omega⟩
      · obtain ⟨hw9, -⟩ := hP
        cases hw9
    have K2 : Ev g (d + 7) m_PL_isProphecy 237 [some (.inr (0, off 12 0)), some (.inr (0, off 60 b)), some (.inl (.int (nI k))), some (.inr (0, nx)), none] [] (G9, nx9) 42 1958 (pLk G nx 80 μ) := by
      refine ev_aload_n (k0 := 0) rfl d_PL_isProphecy_237 ?_
      refine ev_iload_n (k0 := 2) rfl d_PL_isProphecy_238 ?_
      refine Ev.z9 (cv_V [.inl (.int (nI k))] hG9 v_12 rfl lk_ProphecyShopLaw_124 (w_P_refundOf (d + 3) hG9 (P_refundOf hQ hk)) rfl rfl d_PL_isProphecy_239 (aft_ro ?_))
      refine ev_aload_n (k0 := 1) rfl d_PL_isProphecy_242 ?_
      refine ev_iload_n (k0 := 2) rfl d_PL_isProphecy_243 ?_
      refine Ev.z9 (cv_V [.inl (.int (nI k))] hO9 vo_0 rfl lk_ProphecyShopLaw_127 (w_Own_refund (d + 6) vo_0 hO9 (O_refund hn hk ⟨_, P_row hQ hk⟩ hP6)) rfl rfl d_PL_isProphecy_244 (aft_ro ?_))
      refine ev_icmp_ne (tgt := 254) (by decide) d_PL_isProphecy_247 (fun c => absurd rfl c) (fun _ => ?_)
      refine cw_iconst 1 d_PL_isProphecy_250 rfl ?_
      refine ev_goto (tgt := 255) (by decide) d_PL_isProphecy_251 ?_
      refine cw_istoreN 4 1 rfl [some (.inr (0, off 12 0)), some (.inr (0, off 60 b)), some (.inl (.int (nI k))), some (.inr (0, nx)), some (.inl (.int 1))] d_PL_isProphecy_255 rfl rfl rfl ?_
      refine ev_iload (i := 4) rfl d_PL_isProphecy_257 ?_
      refine ev_if_eq (tgt := 340) (by decide) d_PL_isProphecy_259 (fun c => absurd c (by decide)) (fun _ => ?_)
      refine ev_aload_n (k0 := 0) rfl d_PL_isProphecy_262 ?_
      refine ev_iload_n (k0 := 2) rfl d_PL_isProphecy_263 ?_
      refine Ev.z9 (cv_V [.inl (.int (nI k))] hG9 v_12 rfl lk_ProphecyShopLaw_130 (w_P_placeInQueue (d + 5) hG9 (P_placeInQueue hQ hk)) rfl rfl d_PL_isProphecy_264 (aft_ro ?_))
      refine ev_aload_n (k0 := 1) rfl d_PL_isProphecy_267 ?_
      refine ev_iload_n (k0 := 2) rfl d_PL_isProphecy_268 ?_
      refine Ev.z9 (cv_V [.inl (.int (nI k))] hO9 vo_0 rfl lk_ProphecyShopLaw_133 (w_Own_queued (d + 6) vo_0 hO9 (O_queued a12 hw)) rfl rfl d_PL_isProphecy_269 (aft_ro ?_))
      refine ev_icmp_ne (tgt := 340) (by decide) d_PL_isProphecy_272 (fun c => absurd rfl c) (fun _ => ?_)
      refine ev_aload_n (k0 := 0) rfl d_PL_isProphecy_275 ?_
      refine ev_iload_n (k0 := 2) rfl d_PL_isProphecy_276 ?_
      refine Ev.z9 (cv_V [.inl (.int (nI k))] hG9 v_12 rfl lk_ProphecyShopLaw_136 (w_P_answerFor (d + 3) hG9 (P_answerFor hQ hk)) rfl rfl d_PL_isProphecy_277 (aft_ro ?_))
      refine ev_aload_n (k0 := 1) rfl d_PL_isProphecy_280 ?_
      refine cv_getN (.inr (0, off 76 b)) hO9 vo_0 gn_139 rfl rfl d_PL_isProphecy_281 ?_
      refine ev_iload_n (k0 := 2) rfl d_PL_isProphecy_284 ?_
      refine cv_iald hO9 (voK (by decide) (by decide)) rfl rfl (show inb (nI k) 24 = true from inb_of (by omega) (by omega)) rfl d_PL_isProphecy_285 ?_
      rw [nI_clamp (by omega)]
      refine ev_icmp_ne (tgt := 340) (by decide) d_PL_isProphecy_286 (fun c => absurd rfl c) (fun _ => ?_)
      refine ev_aload_n (k0 := 0) rfl d_PL_isProphecy_289 ?_
      refine ev_iload_n (k0 := 2) rfl d_PL_isProphecy_290 ?_
      refine Ev.z9 (cv_V [.inl (.int (nI k))] hG9 v_12 rfl lk_ProphecyShopLaw_142 (w_P_expectedAnswer (d + 3) hG9 (P_expectedAnswer hQ hk)) rfl rfl d_PL_isProphecy_291 (aft_ro ?_))
      refine ev_aload_n (k0 := 1) rfl d_PL_isProphecy_294 ?_
      refine ev_iload_n (k0 := 2) rfl d_PL_isProphecy_295 ?_
      refine Ev.z9 (cv_V [.inl (.int (nI k))] hO9 vo_0 rfl lk_ProphecyShopLaw_145 (w_Own_expected (d + 5) vo_0 hO9 (O_expected hn hk ⟨_, P_row hQ hk⟩ hP6 hQ.2.2.2.1 a5 hdd)) rfl rfl d_PL_isProphecy_296 (aft_ro ?_))
      refine ev_icmp_ne (tgt := 340) (by decide) d_PL_isProphecy_299 (fun c => absurd rfl c) (fun _ => ?_)
      refine ev_aload_n (k0 := 0) rfl d_PL_isProphecy_302 ?_
      refine ev_iload_n (k0 := 2) rfl d_PL_isProphecy_303 ?_
      refine Ev.z9 (cv_V [.inl (.int (nI k))] hG9 v_12 rfl lk_ProphecyShopLaw_148 (w_P_daysUntilDecided (d + 3) hG9 (P_untilDecided hQ hk)) rfl rfl d_PL_isProphecy_304 (aft_ro ?_))
      refine ev_aload_n (k0 := 1) rfl d_PL_isProphecy_307 ?_
      refine cv_getN (.inr (0, off 74 b)) hO9 vo_0 gn_115 rfl rfl d_PL_isProphecy_308 ?_
      refine ev_iload_n (k0 := 2) rfl d_PL_isProphecy_311 ?_
      refine cv_iald hO9 (voK (by decide) (by decide)) rfl rfl (show inb (nI k) 24 = true from inb_of (by omega) (by omega)) rfl d_PL_isProphecy_312 ?_
      rw [nI_clamp (by omega)]
      refine ev_if_ne (tgt := 332) (by decide) d_PL_isProphecy_313 (fun c => ?_) (fun c => ?_)
      · rw [if_neg c]
        refine cw_iconst 0 d_PL_isProphecy_332 rfl ?_
        exact ev_icmp_ne (tgt := 340) (by decide) d_PL_isProphecy_333 (fun c => absurd rfl c) (fun _ => K3)
      · rw [if_pos c]
        refine ev_aload_n (k0 := 1) rfl d_PL_isProphecy_316 ?_
        refine cv_getN (.inr (0, off 72 b)) hO9 vo_0 gn_90 rfl rfl d_PL_isProphecy_317 ?_
        refine ev_iload_n (k0 := 2) rfl d_PL_isProphecy_320 ?_
        refine cv_iald hO9 (voK (by decide) (by decide)) rfl rfl (show inb (nI k) 24 = true from inb_of (by omega) (by omega)) rfl d_PL_isProphecy_321 ?_
        rw [nI_clamp (by omega)]
        refine ev_aload_n (k0 := 1) rfl d_PL_isProphecy_322 ?_
        refine cv_getN (.inl (.int (v 60 b 5))) hO9 vo_0 gn_151 rfl rfl d_PL_isProphecy_323 ?_
        refine ev_isub d_PL_isProphecy_326 ?_
        refine cw_iconst 1 d_PL_isProphecy_327 rfl ?_
        refine ev_iadd d_PL_isProphecy_328 ?_
        refine ev_goto (tgt := 333) (by decide) d_PL_isProphecy_329 ?_
        exact ev_icmp_ne (tgt := 340) (by decide) d_PL_isProphecy_333 (fun c => absurd rfl c) (fun _ => K3)
    refine cw_astoreN_n 3 [some (.inr (0, off 12 0)), some (.inr (0, off 60 b)), some (.inl (.int (nI k))), some (.inr (0, nx)), none] d_PL_isProphecy_115 rfl rfl rfl ?_
    refine ev_aload_n (k0 := 0) rfl d_PL_isProphecy_116 ?_
    refine ev_iload_n (k0 := 2) rfl d_PL_isProphecy_117 ?_
    refine Ev.z9 (cv_V [.inl (.int (nI k))] hG9 v_12 rfl lk_ProphecyShopLaw_93 (w_P_customerOf (d + 3) hG9 (P_customerOf hQ hk)) rfl rfl d_PL_isProphecy_118 (aft_ro ?_))
    refine ev_aload_n (k0 := 1) rfl d_PL_isProphecy_121 ?_
    refine cv_getN (.inr (0, off 68 b)) hO9 vo_0 gn_54 rfl rfl d_PL_isProphecy_122 ?_
    refine ev_iload_n (k0 := 2) rfl d_PL_isProphecy_125 ?_
    refine cv_iald hO9 (voK (by decide) (by decide)) rfl rfl (show inb (nI k) 24 = true from inb_of (by omega) (by omega)) rfl d_PL_isProphecy_126 ?_
    rw [nI_clamp (by omega)]
    refine ev_icmp_ne (tgt := 254) (by decide) d_PL_isProphecy_127 (fun c => absurd rfl c) (fun _ => ?_)
    refine ev_aload_n (k0 := 0) rfl d_PL_isProphecy_130 ?_
    refine ev_iload_n (k0 := 2) rfl d_PL_isProphecy_131 ?_
    refine Ev.z9 (cv_V [.inl (.int (nI k))] hG9 v_12 rfl lk_ProphecyShopLaw_96 (w_P_eventOf (d + 3) hG9 (P_eventOf hQ hk)) rfl rfl d_PL_isProphecy_132 (aft_ro ?_))
    refine ev_aload_n (k0 := 1) rfl d_PL_isProphecy_135 ?_
    refine cv_getN (.inr (0, off 69 b)) hO9 vo_0 gn_74 rfl rfl d_PL_isProphecy_136 ?_
    refine ev_iload_n (k0 := 2) rfl d_PL_isProphecy_139 ?_
    refine cv_iald hO9 (voK (by decide) (by decide)) rfl rfl (show inb (nI k) 24 = true from inb_of (by omega) (by omega)) rfl d_PL_isProphecy_140 ?_
    rw [nI_clamp (by omega)]
    refine ev_icmp_ne (tgt := 254) (by decide) d_PL_isProphecy_141 (fun c => absurd rfl c) (fun _ => ?_)
    refine ev_aload_n (k0 := 0) rfl d_PL_isProphecy_144 ?_
    refine ev_iload_n (k0 := 2) rfl d_PL_isProphecy_145 ?_
    refine Ev.z9 (cv_V [.inl (.int (nI k))] hG9 v_12 rfl lk_ProphecyShopLaw_99 (w_P_placeOf (d + 3) hG9 (P_placeOf hQ hk)) rfl rfl d_PL_isProphecy_146 (aft_ro ?_))
    refine ev_aload_n (k0 := 1) rfl d_PL_isProphecy_149 ?_
    refine cv_getN (.inr (0, off 70 b)) hO9 vo_0 gn_77 rfl rfl d_PL_isProphecy_150 ?_
    refine ev_iload_n (k0 := 2) rfl d_PL_isProphecy_153 ?_
    refine cv_iald hO9 (voK (by decide) (by decide)) rfl rfl (show inb (nI k) 24 = true from inb_of (by omega) (by omega)) rfl d_PL_isProphecy_154 ?_
    rw [nI_clamp (by omega)]
    refine ev_icmp_ne (tgt := 254) (by decide) d_PL_isProphecy_155 (fun c => absurd rfl c) (fun _ => ?_)
    refine ev_aload_n (k0 := 0) rfl d_PL_isProphecy_158 ?_
    refine ev_iload_n (k0 := 2) rfl d_PL_isProphecy_159 ?_
    refine Ev.z9 (cv_V [.inl (.int (nI k))] hG9 v_12 rfl lk_ProphecyShopLaw_102 (w_P_isDenial (d + 3) hG9 (P_isDenial hQ hk)) rfl rfl d_PL_isProphecy_160 (aft_ro ?_))
    refine ev_aload_n (k0 := 1) rfl d_PL_isProphecy_163 ?_
    refine cv_getN (.inr (0, off 78 b)) hO9 vo_0 gn_64 rfl rfl d_PL_isProphecy_164 ?_
    refine ev_iload_n (k0 := 2) rfl d_PL_isProphecy_167 ?_
    refine cv_zald hO9 (voK (by decide) (by decide)) rfl rfl (show inb (nI k) 24 = true from inb_of (by omega) (by omega)) rfl d_PL_isProphecy_168 ?_
    rw [nI_clamp (by omega)]
    refine ev_icmp_ne (tgt := 254) (by decide) d_PL_isProphecy_169 (fun c => absurd rfl c) (fun _ => ?_)
    refine ev_aload_n (k0 := 0) rfl d_PL_isProphecy_172 ?_
    refine ev_iload_n (k0 := 2) rfl d_PL_isProphecy_173 ?_
    refine Ev.z9 (cv_V [.inl (.int (nI k))] hG9 v_12 rfl lk_ProphecyShopLaw_106 (w_P_firstDay (d + 3) hG9 (P_firstDay hQ hk)) rfl rfl d_PL_isProphecy_174 (aft_ro ?_))
    refine ev_aload_n (k0 := 1) rfl d_PL_isProphecy_177 ?_
    refine cv_getN (.inr (0, off 71 b)) hO9 vo_0 gn_84 rfl rfl d_PL_isProphecy_178 ?_
    refine ev_iload_n (k0 := 2) rfl d_PL_isProphecy_181 ?_
    refine cv_iald hO9 (voK (by decide) (by decide)) rfl rfl (show inb (nI k) 24 = true from inb_of (by omega) (by omega)) rfl d_PL_isProphecy_182 ?_
    rw [nI_clamp (by omega)]
    refine ev_icmp_ne (tgt := 254) (by decide) d_PL_isProphecy_183 (fun c => absurd rfl c) (fun _ => ?_)
    refine ev_aload_n (k0 := 0) rfl d_PL_isProphecy_186 ?_
    refine ev_iload_n (k0 := 2) rfl d_PL_isProphecy_187 ?_
    refine Ev.z9 (cv_V [.inl (.int (nI k))] hG9 v_12 rfl lk_ProphecyShopLaw_109 (w_P_lastDay (d + 3) hG9 (P_lastDay hQ hk)) rfl rfl d_PL_isProphecy_188 (aft_ro ?_))
    refine ev_aload_n (k0 := 1) rfl d_PL_isProphecy_191 ?_
    refine cv_getN (.inr (0, off 72 b)) hO9 vo_0 gn_90 rfl rfl d_PL_isProphecy_192 ?_
    refine ev_iload_n (k0 := 2) rfl d_PL_isProphecy_195 ?_
    refine cv_iald hO9 (voK (by decide) (by decide)) rfl rfl (show inb (nI k) 24 = true from inb_of (by omega) (by omega)) rfl d_PL_isProphecy_196 ?_
    rw [nI_clamp (by omega)]
    refine ev_icmp_ne (tgt := 254) (by decide) d_PL_isProphecy_197 (fun c => absurd rfl c) (fun _ => ?_)
    refine ev_aload_n (k0 := 0) rfl d_PL_isProphecy_200 ?_
    refine ev_iload_n (k0 := 2) rfl d_PL_isProphecy_201 ?_
    refine Ev.z9 (cv_V [.inl (.int (nI k))] hG9 v_12 rfl lk_ProphecyShopLaw_112 (w_P_stateOf (d + 3) hG9 (P_stateOf hQ hk)) rfl rfl d_PL_isProphecy_202 (aft_ro ?_))
    refine ev_aload_n (k0 := 1) rfl d_PL_isProphecy_205 ?_
    refine cv_getN (.inr (0, off 74 b)) hO9 vo_0 gn_115 rfl rfl d_PL_isProphecy_206 ?_
    refine ev_iload_n (k0 := 2) rfl d_PL_isProphecy_209 ?_
    refine cv_iald hO9 (voK (by decide) (by decide)) rfl rfl (show inb (nI k) 24 = true from inb_of (by omega) (by omega)) rfl d_PL_isProphecy_210 ?_
    rw [nI_clamp (by omega)]
    refine ev_icmp_ne (tgt := 254) (by decide) d_PL_isProphecy_211 (fun c => absurd rfl c) (fun _ => ?_)
    refine ev_aload_n (k0 := 1) rfl d_PL_isProphecy_214 ?_
    refine cv_getN (.inr (0, off 74 b)) hO9 vo_0 gn_115 rfl rfl d_PL_isProphecy_215 ?_
    refine ev_iload_n (k0 := 2) rfl d_PL_isProphecy_218 ?_
    refine cv_iald hO9 (voK (by decide) (by decide)) rfl rfl (show inb (nI k) 24 = true from inb_of (by omega) (by omega)) rfl d_PL_isProphecy_219 ?_
    rw [nI_clamp (by omega)]
    refine ev_if_eq (tgt := 237) (by decide) d_PL_isProphecy_220 (fun c => K2) (fun c => ?_)
    refine ev_aload_n (k0 := 0) rfl d_PL_isProphecy_223 ?_
    refine ev_iload_n (k0 := 2) rfl d_PL_isProphecy_224 ?_
    refine Ev.z9 (cv_V [.inl (.int (nI k))] hG9 v_12 rfl lk_ProphecyShopLaw_118 (w_P_decidedOn (d + 3) hG9 (P_decidedOn hQ hk c)) rfl rfl d_PL_isProphecy_225 (aft_ro ?_))
    refine ev_aload_n (k0 := 1) rfl d_PL_isProphecy_228 ?_
    refine cv_getN (.inr (0, off 75 b)) hO9 vo_0 gn_121 rfl rfl d_PL_isProphecy_229 ?_
    refine ev_iload_n (k0 := 2) rfl d_PL_isProphecy_232 ?_
    refine cv_iald hO9 (voK (by decide) (by decide)) rfl rfl (show inb (nI k) 24 = true from inb_of (by omega) (by omega)) rfl d_PL_isProphecy_233 ?_
    rw [nI_clamp (by omega)]
    exact ev_icmp_ne (tgt := 254) (by decide) d_PL_isProphecy_234 (fun c => absurd rfl c) (fun _ => K2)
  -- the text
  have KC : ∀ (i9 : Nat) (l6 t3 : List Nat) (M0 M : RM) (r vv : Nat × Nat) (k9 : Nat), l6 ++ t3 = l6 ++ (if v 70 b k < 0 then [42] else nm2 16 (v 70 b k)) → ((((((nm2 3 (v 68 b k) ++ [58]) ++ (if v 78 b k = 0 then [] else [33])) ++ nm2 5 (v 69 b k)) ++ [64]))) = l6 → t3.length ≤ 2 → i9 + k9 ≤ 24 → BI 24 G nx nx i9 l6 M0 → M0.2 ≤ M.2 ∧ M.2 ≤ M0.2 + k9 → (∀ q, q < M0.2 → M.1 q = M0.1 q) → SR g M r vv t3 → (vv.1 = 0 → M0.2 ≤ vv.2) → Ev g (d + 7) m_PL_isProphecy 84 [some (.inr (0, off 12 0)), some (.inr (0, off 60 b)), some (.inl (.int (nI k))), none, none] [.inr r, .inr (0, nx)] M 47 2198 (pLk G nx 80 μ) := by
    intro i9 l6 t3 M0 M r vv k9 ht hl6 h3 hi hb0 hn9 hF0 hsr hvv
    have z6 : l6.length ≤ 8 := by
      rw [← hl6]
      unfold nm2
      simp only [List.length_append, List.length_cons, List.length_nil]
      split <;> simp
    refine Ev.room (mc := 1 + 46) (ms := 2 * 24 + 2150) (ev_appS (B := 24) (d := d + 2) hb0 hn9 hF0 hsr hvv lj_ProphecyShopLaw_38_1 (by omega) rfl d_PL_isProphecy_84 (fun M1 b1 => ?_)) (by omega) (by omega)
    have z7 : (l6 ++ t3).length ≤ 10 := by rw [List.length_append]; omega
    refine cw_bipush 32 d_PL_isProphecy_87 rfl ?_
    refine Ev.room (mc := 1 + 45) (ms := 2 * 24 + 2102) (ev_appC (B := 24) (c := 32) (d := d + 2) b1 lj_ProphecyShopLaw_41_1 (by omega) (by omega) rfl d_PL_isProphecy_89 (fun M2 b2 => ?_)) (by omega) (by omega)
    have n2 := b2.nx
    obtain ⟨G2, nx2⟩ := M2
    have hF2 : ∀ q, q < nx → G2 q = G q := by obtain ⟨-, -, -, -, -, h⟩ := b2; exact h
    have hO2 : LM (vo b) b (b + 21) v G2 G2 := KB.own (nx := nx) (fun q _ h => hF2 q h) hO hb hb2
    refine ev_aload_n (k0 := 1) rfl d_PL_isProphecy_92 ?_
    refine cv_getN (.inr (0, off 71 b)) hO2 vo_0 gn_84 rfl rfl d_PL_isProphecy_93 ?_
    refine ev_iload_n (k0 := 2) rfl d_PL_isProphecy_96 ?_
    refine cv_iald hO2 (voK (by decide) (by decide)) rfl rfl (show inb (nI k) 24 = true from inb_of (by omega) (by omega)) rfl d_PL_isProphecy_97 ?_
    rw [nI_clamp (by omega)]
    rw [m4]
    have z8 : ((l6 ++ t3) ++ [32]).length ≤ 11 := by rw [List.length_append]; show _ + 1 ≤ _; omega
    refine Ev.room (mc := 1 + 44) (ms := 2 * 24 + 2054) (ev_appI (B := 24) (d := d + 2) hD b2 lj_ProphecyShopLaw_87_1 (by omega) (by omega) rfl d_PL_isProphecy_98 (fun M3 b3 => ?_)) (by omega) (by omega)
    have z9 : (((l6 ++ t3) ++ [32]) ++ digs d1).length ≤ 16 := by rw [List.length_append, digs_len]; omega
    refine cw_bipush 45 d_PL_isProphecy_101 rfl ?_
    refine Ev.room (mc := 1 + 43) (ms := 2 * 24 + 2006) (ev_appC (B := 24) (c := 45) (d := d + 2) b3 lj_ProphecyShopLaw_41_1 (by omega) (by omega) rfl d_PL_isProphecy_103 (fun M4 b4 => ?_)) (by omega) (by omega)
    have z10 : ((((l6 ++ t3) ++ [32]) ++ digs d1) ++ [45]).length ≤ 17 := by rw [List.length_append]; show _ + 1 ≤ _; omega
    have n4 := b4.nx
    obtain ⟨G4, nx4⟩ := M4
    have hF4 : ∀ q, q < nx → G4 q = G q := by obtain ⟨-, -, -, -, -, h⟩ := b4; exact h
    have hO4 : LM (vo b) b (b + 21) v G4 G4 := KB.own (nx := nx) (fun q _ h => hF4 q h) hO hb hb2
    refine ev_aload_n (k0 := 1) rfl d_PL_isProphecy_106 ?_
    refine cv_getN (.inr (0, off 72 b)) hO4 vo_0 gn_90 rfl rfl d_PL_isProphecy_107 ?_
    refine ev_iload_n (k0 := 2) rfl d_PL_isProphecy_110 ?_
    refine cv_iald hO4 (voK (by decide) (by decide)) rfl rfl (show inb (nI k) 24 = true from inb_of (by omega) (by omega)) rfl d_PL_isProphecy_111 ?_
    rw [nI_clamp (by omega)]
    rw [m5]
    refine Ev.room (mc := 1 + 42) (ms := 2 * 24 + 1958) (ev_appI (B := 24) (d := d + 2) hD b4 lj_ProphecyShopLaw_87_1 (by omega) (by omega) rfl d_PL_isProphecy_112 (fun M5 b5 => ?_)) (by omega) (by omega)
    refine KZ M5 _ (b5.at ?_) (by omega)
    unfold ptx
    rw [ht, hl6, m4, m5, nI_clamp (by omega), nI_clamp (by omega)]
  have KB9 : ∀ (w9 : Nat) (tk : List Nat) (M : RM), w9 < 28 → sTx w9 = (58 :: tk).map nI → tk = (if v 78 b k = 0 then [] else [33]) → BI 24 G nx nx 9 (nm2 3 (v 68 b k)) M → Ev g (d + 7) m_PL_isProphecy 37 [some (.inr (0, off 12 0)), some (.inr (0, off 60 b)), some (.inl (.int (nI k))), none, none] [.inr (1, w9), .inr (0, nx)] M 62 2486 (pLk G nx 80 μ) := by
    intro w9 tk M hw9 hs9 htk b0
    have htl : tk.length ≤ 1 := by rw [htk]; split <;> simp
    have ht128 : ∀ i, i < (58 :: tk).length → (58 :: tk).getD i 0 < 128 := fun i hi => okW (fun x hx => by
      rw [htk] at hx
      split at hx <;> simp at hx <;> omega) hi
    refine Ev.room (mc := 1 + 61) (ms := 2 * 24 + 2438) (ev_appS (B := 24) (d := d + 2) (k9 := 0) b0 ⟨Nat.le_refl _, Nat.le_refl _⟩ (fun _ _ => rfl) (SR.of hS hw9 hs9 ht128) (fun z => (Nat.one_ne_zero z).elim) lj_ProphecyShopLaw_38_1 (by unfold nm2; simp only [List.length_cons, List.length_nil]; omega) rfl d_PL_isProphecy_37 (fun M1 b1 => ?_)) (by omega) (by omega)
    have n1 := b1.nx
    obtain ⟨G1, nx1⟩ := M1
    have hF1 : ∀ q, q < nx → G1 q = G q := by obtain ⟨-, -, -, -, -, h⟩ := b1; exact h
    have hO1 : LM (vo b) b (b + 21) v G1 G1 := KB.own (nx := nx) (fun q _ h => hF1 q h) hO hb hb2
    refine ev_ldcS (i := 11) (tx := "e") (by decide) d_PL_isProphecy_40 ?_
    refine ev_aload_n (k0 := 1) rfl d_PL_isProphecy_42 ?_
    refine cv_getN (.inr (0, off 69 b)) hO1 vo_0 gn_74 rfl rfl d_PL_isProphecy_43 ?_
    refine ev_iload_n (k0 := 2) rfl d_PL_isProphecy_46 ?_
    refine cv_iald hO1 (voK (by decide) (by decide)) rfl rfl (show inb (nI k) 24 = true from inb_of (by omega) (by omega)) rfl d_PL_isProphecy_47 ?_
    rw [nI_clamp (by omega)]
    rw [m1]
    refine Ev.room (mc := 6 + 55) (ms := 72 + 2366) (cw_S [.inr (1, 11), .inl (.int (nI e))] lk_ProphecyShopLaw_60 (M_name d hS (p := 101) (by decide) rfl (by decide) (by omega)) rfl rfl d_PL_isProphecy_48 ⟨fun w9 M9 hP => ?_, fun E9 M9 hP => by obtain ⟨_, hv, -⟩ := hP; cases hv⟩) (by omega) (by omega)
    obtain ⟨s1, hw9, q1, q2, q3, q4, q5⟩ := hP
    cases hw9
    have z1 : (nm2 3 (v 68 b k) ++ 58 :: tk).length ≤ 4 := by
      unfold nm2
      simp only [List.length_append, List.length_cons, List.length_nil]
      omega
    refine Ev.room (mc := 1 + 54) (ms := 2 * 24 + 2318) (ev_appS (B := 24) (d := d + 2) (k9 := 6) b1 ⟨by show nx1 ≤ M9.2; omega, by show M9.2 ≤ nx1 + 6; omega⟩ q5 q4 (fun _ => by show nx1 ≤ s1 + 1; omega) lj_ProphecyShopLaw_38_1 (by simp only [List.length_cons, List.length_nil]; omega) rfl d_PL_isProphecy_51 (fun M2 b2 => ?_)) (by omega) (by omega)
    have z2 : ((nm2 3 (v 68 b k) ++ 58 :: tk) ++ [101, 97 + e]).length ≤ 6 := by rw [List.length_append]; show _ + 2 ≤ _; omega
    refine cw_bipush 64 d_PL_isProphecy_54 rfl ?_
    refine Ev.room (mc := 1 + 53) (ms := 2 * 24 + 2270) (ev_appC (B := 24) (c := 64) (d := d + 2) b2 lj_ProphecyShopLaw_41_1 (by omega) (by omega) rfl d_PL_isProphecy_56 (fun M3 b3 => ?_)) (by omega) (by omega)
    have hl3 : ((((nm2 3 (v 68 b k) ++ [58]) ++ (if v 78 b k = 0 then [] else [33])) ++ nm2 5 (v 69 b k)) ++ [64]) = ((nm2 3 (v 68 b k) ++ 58 :: tk) ++ [101, 97 + e]) ++ [64] := by
      rw [← htk, m1]
      unfold nm2
      rw [nI_clamp (show e < 2 ^ 31 by omega), List.append_assoc _ [58] tk]
      rfl
    have n3 := b3.nx
    obtain ⟨G3, nx3⟩ := M3
    have hF3 : ∀ q, q < nx → G3 q = G q := by obtain ⟨-, -, -, -, -, h⟩ := b3; exact h
    have hO3 : LM (vo b) b (b + 21) v G3 G3 := KB.own (nx := nx) (fun q _ h => hF3 q h) hO hb hb2
    refine ev_aload_n (k0 := 1) rfl d_PL_isProphecy_59 ?_
    refine cv_getN (.inr (0, off 70 b)) hO3 vo_0 gn_77 rfl rfl d_PL_isProphecy_60 ?_
    refine ev_iload_n (k0 := 2) rfl d_PL_isProphecy_63 ?_
    refine cv_iald hO3 (voK (by decide) (by decide)) rfl rfl (show inb (nI k) 24 = true from inb_of (by omega) (by omega)) rfl d_PL_isProphecy_64 ?_
    rw [nI_clamp (by omega)]
    refine ev_if_ge (tgt := 73) (by decide) d_PL_isProphecy_65 (fun cj => ?_) (fun cj => ?_)
    · rcases m3 with z | ⟨l, hl, z⟩
      · rw [z] at cj
        exact absurd cj (by decide)
      refine ev_ldcS (i := 13) (tx := "p") (by decide) d_PL_isProphecy_73 ?_
      refine ev_aload_n (k0 := 1) rfl d_PL_isProphecy_75 ?_
      refine cv_getN (.inr (0, off 70 b)) hO3 vo_0 gn_77 rfl rfl d_PL_isProphecy_76 ?_
      refine ev_iload_n (k0 := 2) rfl d_PL_isProphecy_79 ?_
      refine cv_iald hO3 (voK (by decide) (by decide)) rfl rfl (show inb (nI k) 24 = true from inb_of (by omega) (by omega)) rfl d_PL_isProphecy_80 ?_
      rw [nI_clamp (by omega)]
      rw [z]
      refine Ev.room (mc := 6 + 47) (ms := 72 + 2198) (cw_S [.inr (1, 13), .inl (.int (nI l))] lk_ProphecyShopLaw_60 (M_name d hS (p := 112) (by decide) rfl (by decide) (by omega)) rfl rfl d_PL_isProphecy_81 ⟨fun w9 M9 hP => ?_, fun E9 M9 hP => by obtain ⟨_, hv, -⟩ := hP; cases hv⟩) (by omega) (by omega)
      obtain ⟨s3, hw9, q1, q2, q3, q4, q5⟩ := hP
      cases hw9
      refine Ev.room (KC 18 _ [112, 97 + l] (G3, nx3) M9 _ _ 6 (by rw [z, if_neg (nI_neg1 (by omega))]; unfold nm2; rw [nI_clamp (by omega)]) hl3 (by simp) (by omega) b3 ⟨by show nx3 ≤ M9.2; omega, by show M9.2 ≤ nx3 + 6; omega⟩ q5 q4 (fun _ => by show nx3 ≤ s3 + 1; omega)) (by omega) (by omega)
    · have z : v 70 b k < 0 := Int32.not_le.mp cj
      refine ev_ldcS (i := 12) (tx := "*") (by decide) d_PL_isProphecy_68 ?_
      refine ev_goto (tgt := 84) (by decide) d_PL_isProphecy_70 ?_
      refine Ev.room (KC 18 _ [42] (G3, nx3) (G3, nx3) (1, 12) (1, 40 + 12) 0 (by rw [if_pos z]) hl3 (by simp) (by omega) b3 ⟨Nat.le_refl _, Nat.le_refl _⟩ (fun _ _ => rfl) (SR.of hS (by decide) rfl (fun i hi => by simp at hi; subst hi; decide)) (fun z => (Nat.one_ne_zero z).elim)) (by omega) (by omega)
  refine Mt.of9 [some (.inr (0, off 12 0)), some (.inr (0, off 60 b)), some (.inl (.int (nI k))), none, none] (by decide +kernel) rfl rfl rfl rfl ?_
  refine Ev.room (mc := 1 + 69 + 1) (ms := 16 + 2606 + 4) (ev_sbNew (B := 24) (d := d + 5) (by decide) cl_ProphecyShopLaw_35 lj_ProphecyShopLaw_37 rfl d_PL_isProphecy_0 d_PL_isProphecy_3 d_PL_isProphecy_4 (fun M1 b1 => ?_)) (by omega) (by omega)
  have n1 := b1.nx
  obtain ⟨G1, nx1⟩ := M1
  have hF1 : ∀ q, q < nx → G1 q = G q := by obtain ⟨-, -, -, -, -, h⟩ := b1; exact h
  have hO1 : LM (vo b) b (b + 21) v G1 G1 := KB.own (nx := nx) (fun q _ h => hF1 q h) hO hb hb2
  refine ev_ldcS (i := 8) (tx := "c") (by decide) d_PL_isProphecy_7 ?_
  refine ev_aload_n (k0 := 1) rfl d_PL_isProphecy_9 ?_
  refine cv_getN (.inr (0, off 68 b)) hO1 vo_0 gn_54 rfl rfl d_PL_isProphecy_10 ?_
  refine ev_iload_n (k0 := 2) rfl d_PL_isProphecy_13 ?_
  refine cv_iald hO1 (voK (by decide) (by decide)) rfl rfl (show inb (nI k) 24 = true from inb_of (by omega) (by omega)) rfl d_PL_isProphecy_14 ?_
  rw [nI_clamp (by omega)]
  rw [m0]
  refine Ev.room (mc := 6 + 63) (ms := 72 + 2534) (cw_S [.inr (1, 8), .inl (.int (nI c))] lk_ProphecyShopLaw_60 (M_name d hS (p := 99) (by decide) rfl (by decide) (by omega)) rfl rfl d_PL_isProphecy_15 ⟨fun w9 M9 hP => ?_, fun E9 M9 hP => by obtain ⟨_, hv, -⟩ := hP; cases hv⟩) (by omega) (by omega)
  obtain ⟨s1, hw9, q1, q2, q3, q4, q5⟩ := hP
  cases hw9
  refine Ev.room (mc := 1 + 62) (ms := 2 * 24 + 2486) (ev_appS (B := 24) (d := d + 2) (k9 := 6) b1 ⟨by show nx1 ≤ M9.2; omega, by show M9.2 ≤ nx1 + 6; omega⟩ q5 q4 (fun _ => by show nx1 ≤ s1 + 1; omega) lj_ProphecyShopLaw_38_1 (by simp) rfl d_PL_isProphecy_18 (fun M2 b2 => ?_)) (by omega) (by omega)
  have hl0 : nm2 3 (v 68 b k) = [] ++ [99, 97 + c] := by
    rw [m0]
    unfold nm2
    rw [nI_clamp (by omega)]
    rfl
  have b2 := b2.at hl0.symm
  have n2 := b2.nx
  obtain ⟨G2, nx2⟩ := M2
  have hF2 : ∀ q, q < nx → G2 q = G q := by obtain ⟨-, -, -, -, -, h⟩ := b2; exact h
  have hO2 : LM (vo b) b (b + 21) v G2 G2 := KB.own (nx := nx) (fun q _ h => hF2 q h) hO hb hb2
  refine ev_aload_n (k0 := 1) rfl d_PL_isProphecy_21 ?_
  refine cv_getN (.inr (0, off 78 b)) hO2 vo_0 gn_64 rfl rfl d_PL_isProphecy_22 ?_
  refine ev_iload_n (k0 := 2) rfl d_PL_isProphecy_25 ?_
  refine cv_zald hO2 (voK (by decide) (by decide)) rfl rfl (show inb (nI k) 24 = true from inb_of (by omega) (by omega)) rfl d_PL_isProphecy_26 ?_
  rw [nI_clamp (by omega)]
  refine ev_if_eq (tgt := 35) (by decide) d_PL_isProphecy_27 (fun cj => ?_) (fun cj => ?_)
  · refine ev_ldcS (i := 10) (tx := ":") (by decide) d_PL_isProphecy_35 ?_
    exact Ev.room (KB9 10 [] (G2, nx2) (by decide) rfl (by rw [if_pos cj]) b2) (by omega) (by omega)
  · refine ev_ldcS (i := 9) (tx := ":!") (by decide) d_PL_isProphecy_30 ?_
    refine ev_goto (tgt := 37) (by decide) d_PL_isProphecy_32 ?_
    exact Ev.room (KB9 9 [33] (G2, nx2) (by decide) rfl (by rw [if_neg cj]) b2) (by omega) (by omega)
end Pr

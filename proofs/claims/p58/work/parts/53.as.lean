/-! The law looks at the shop. -/
theorem cmpF_rf {x : UInt32} (h : vf_n32 x) : Op.cmpValue (FP.fcmp x x) .l = 0 := by
  have e : FP.fcmp x x = some .eq := FP.Core.fcmp_self (Jvm.Free.Fl.val32_no.mp h)
  rw [e]
  rfl
theorem cmpD_rf {x : UInt64} (h : vf_n64 x) : Op.cmpValue (FP.dcmp x x) .l = 0 := by
  have e : FP.dcmp x x = some .eq := FP.Core.dcmp_self (Jvm.Free.Fl.val64_no.mp h)
  rw [e]
  rfl
theorem qtO_128 {f : Nat → Nat} : ∀ {w : Nat}, ∀ x ∈ qtx f w, x < 128 := by
  intro w
  induction w with
  | zero => intro x hx; exact absurd hx List.not_mem_nil
  | succ w ih =>
    intro x hx
    rcases List.mem_append.mp hx with h | h
    · rcases List.mem_append.mp h with h | h
      · exact ih x h
      · split at h
        · exact absurd h List.not_mem_nil
        · simp at h
          omega
    · exact digs_128 x h
section As
variable {g : GL} {G : RG} {c0 : Int32} {μ v : Mem} {s b E P C O n w t dd nx : Nat}
set_option maxRecDepth 100000 in
set_option maxHeartbeats 1000000 in
theorem M_isAs (d : Nat) (hD : DG g) (hS : SG g) (hG : LM vc 0 535 μ G G) (hO : LM (vo b) b (b + 21) v G G) (hb : 535 ≤ b) (hb2 : b + 21 ≤ nx) (hnx : nx < 2 ^ 28) (hQ : QS c0 μ 0 s b v E P C O n w t dd) (h12 : μ 12 0 3 = nI s) (hP1 : 1 ≤ P) (day : Int32) : Mt g (d + 8) m_PL_isAs [.inr (0, off 12 0), .inr (0, off 60 b), .inl (.int day)] (G, nx) 1830 77200 (pLk G nx 2100 μ) := by
  obtain ⟨hs2, hE6, hP6, hC8, hO5, ⟨-, a6⟩, ⟨-, a7⟩, ⟨-, a8⟩, ⟨-, a9⟩, -⟩ := hQ.2.1
  obtain ⟨hn, hw, ht, hdd, -, a5, -, -, a10, -, a12, -, a11, -⟩ := hQ.2.2.1.1
  obtain ⟨hqt, -, hqf⟩ := T_qtx hQ
  have a9r := a9
  have a10' := a10
  have a12' := a12
  rw [ro_0 (by omega)] at a8 a9 a10' a12'
  refine Mt.of9 [some (.inr (0, off 12 0)), some (.inr (0, off 60 b)), some (.inl (.int day)), none, none, none, none] (by decide +kernel) rfl rfl rfl rfl ?_
  refine Ev.room (mc := 1 + 1828 + 1) (ms := 16 + 77180 + 4) (ev_sbNew (B := 71) (d := d + 6) (by decide) cl_ProphecyShopLaw_35 lj_ProphecyShopLaw_37 rfl d_PL_isAs_0 d_PL_isAs_3 d_PL_isAs_4 (fun M1 b1 => ?_)) (by omega) (by omega)
  have n1 := b1.nx
  have x1 : M1.2 ≤ nx + 2 := by obtain ⟨_, _, _, _, h, _⟩ := id b1; exact h.2
  obtain ⟨G1, nx1⟩ := M1
  replace x1 : nx1 ≤ nx + 2 := x1
  replace n1 : nx ≤ nx1 := n1
  have hF1 : ∀ q, q < nx → G1 q = G q := by obtain ⟨-, -, -, -, -, h⟩ := b1; exact h
  have hG1 : LM vc 0 535 μ G1 G1 := b1.lm (by omega) hG
  have hK1 : KB nx G G1 := fun q _ h => hF1 q h
  have hO1 : LM (vo b) b (b + 21) v G1 G1 := hK1.own hO hb hb2
  have b1' := fun G' nx' k (hk : KB nx1 G1 G') (hn : nx1 ≤ nx' ∧ nx' ≤ nx1 + k) => b1.re (G' := G') (nx' := nx') (by omega) hk hn
  have REST : ∀ (μ9 : Mem) (G9 : RG) (nx9 : Nat), LM vc 0 535 μ9 G9 G9 → FrL μ μ9 → KB nx1 G1 G9 → nx1 ≤ nx9 → nx9 ≤ nx1 + 1920 → Ev g (d + 8) m_PL_isAs 65 [some (.inr (0, off 12 0)), some (.inr (0, off 60 b)), some (.inl (.int day)), some (.inr (0, nx)), some (.inl (.int (sm (fun p => rO c0 b v (80 + 10 * p + 6)) n))), some (.inl (.int (nI n - nI (cnt (rO c0 b v) 0 n)))), none] [] (G9, nx9) 124 14100 (pLk G nx 2100 μ) := by
    intro μ9 G9 nx9 hG9 hL9 hK9 hn9 hx9
    have hQ9 := hL9.qs hQ
    have h129 : μ9 12 0 3 = nI s := hL9.m12.trans h12
    have hO9 : LM (vo b) b (b + 21) v G9 G9 := hK9.own hO1 hb (by omega)
    have ASK : ∀ (G8 : RG) (nx8 : Nat), BI 71 G9 nx nx 1971 (qtO v b w) (G8, nx8) → (∀ q, q < nx → G8 q = G9 q) → Ev g (d + 8) m_PL_isAs 230 [some (.inr (0, off 12 0)), some (.inr (0, off 60 b)), some (.inl (.int day)), some (.inr (0, nx)), some (.inl (.int (sm (fun p => rO c0 b v (80 + 10 * p + 6)) n))), some (.inl (.int (nI n - nI (cnt (rO c0 b v) 0 n)))), none] [] (G8, nx8) 62 7146 (pLk G nx 2100 μ) := by
      intro G8 nx8 b8 hF8
      have hn8 : nx ≤ nx8 := b8.nx
      have hx8 : nx8 ≤ nx + 1971 := by obtain ⟨_, _, _, _, h, _⟩ := id b8; exact h.2
      have hG8 : LM vc 0 535 μ9 G8 G8 := ⟨fun K j hv => (hF8 _ (by have := (okC.2 K j hv).2; omega)).trans (hG9.1 K j hv), fun _ _ => rfl⟩
      have hO8 : LM (vo b) b (b + 21) v G8 G8 := KB.own (nx := nx) (fun q _ h => hF8 q h) hO9 hb hb2
      have hnf : vf_n32 (if nI n - nI (cnt (rO c0 b v) 0 n) = 0 then FP.fconst0 else FP.fdiv (FP.i2f (nI (cnt (rO c0 b v) 1 n))) (FP.i2f (nI n - nI (cnt (rO c0 b v) 0 n)))) := by
        by_cases c : nI n - nI (cnt (rO c0 b v) 0 n) = 0
        · rw [if_pos c]; exact okF9_n (by decide +kernel)
        · rw [if_neg c]; exact okF9_n (okF9_div c)
      have hnd : vf_n64 (if nI n = 0 then FP.dconst0 else FP.ddiv (FP.i2d (sm (fun p => rO c0 b v (80 + 10 * p + 6)) n)) (FP.i2d (nI n))) := by
        by_cases c : nI n = 0
        · rw [if_pos c]; exact okD9_n (by decide +kernel)
        · rw [if_neg c]; exact okD9_n (okD9_div c)
      have KZ : Ev g (d + 8) m_PL_isAs 412 [some (.inr (0, off 12 0)), some (.inr (0, off 60 b)), some (.inl (.int day)), some (.inr (0, nx)), some (.inl (.int (sm (fun p => rO c0 b v (80 + 10 * p + 6)) n))), some (.inl (.int (nI n - nI (cnt (rO c0 b v) 0 n)))), some (.inl (.int 1))] [] (G8, nx8) 62 7146 (pLk G nx 2100 μ) := by
        refine ev_aload_n (k0 := 0) rfl d_PL_isAs_412 ?_
        refine Ev.z9 (cv_V [] hG8 v_12 rfl lk_ProphecyShopLaw_293 (w_P_contradictions (d + 4) hG8 (P_contradictions h129 hQ9)) rfl rfl d_PL_isAs_413 (aft_ro ?_))
        refine ev_if_ne (tgt := 423) (by decide) d_PL_isAs_416 (fun c => absurd rfl c) (fun _ => ?_)
        refine cw_iconst 1 d_PL_isAs_419 rfl ?_
        refine ev_goto (tgt := 424) (by decide) d_PL_isAs_420 ?_
        refine cw_istoreN 6 1 rfl [some (.inr (0, off 12 0)), some (.inr (0, off 60 b)), some (.inl (.int day)), some (.inr (0, nx)), some (.inl (.int (sm (fun p => rO c0 b v (80 + 10 * p + 6)) n))), some (.inl (.int (nI n - nI (cnt (rO c0 b v) 0 n)))), some (.inl (.int 1))] d_PL_isAs_424 rfl rfl rfl ?_
        refine ev_iload (i := 6) rfl d_PL_isAs_426 ?_
        refine ev_if_eq (tgt := 459) (by decide) d_PL_isAs_428 (fun c => absurd c (by decide)) (fun _ => ?_)
        refine ev_aload_n (k0 := 0) rfl d_PL_isAs_431 ?_
        refine ev_aload_n (k0 := 1) rfl d_PL_isAs_432 ?_
        refine ev_iload_n (k0 := 2) rfl d_PL_isAs_433 ?_
        refine Ev.z9 (cw_S [.inr (0, off 12 0), .inr (0, off 60 b), .inl (.int day)] lk_ProphecyShopLaw_296 (M_areEvents d hG8 hO8 hQ9 h129 hP1 day) rfl rfl d_PL_isAs_434 (aft_ro ?_))
        refine ev_if_eq (tgt := 459) (by decide) d_PL_isAs_437 (fun c => absurd c (by decide)) (fun _ => ?_)
        refine ev_aload_n (k0 := 0) rfl d_PL_isAs_440 ?_
        refine ev_aload_n (k0 := 0) rfl d_PL_isAs_441 ?_
        refine Ev.room (mc := 60 + 2) (ms := 7000 + 146) (cv_V (d := d + 7) [] hG8 v_12 rfl lk_ProphecyShopLaw_299 (M_writeQueue (d + 1) hD hG8 (by omega) (by omega) (T_qtx hQ9).1) rfl rfl d_PL_isAs_442 ⟨fun w9 M7 hP => ?_, fun E9 M7 hP => ?_⟩) (by omega) (by omega)
        · obtain ⟨hw9, s7, p1, p2, p3, p4, p5, p6⟩ := hP
          cases hw9
          obtain ⟨G7, nx7⟩ := M7
          replace p2 : s7 + 2 = nx7 := p2
          have b7 := b8.re (by omega) (nx' := nx7) (k := 52) p6 ⟨by omega, by omega⟩
          refine ev_aload_n (k0 := 3) rfl d_PL_isAs_445 ?_
          refine Ev.room (mc := 2 + 0) (ms := 2 * 71 + 4 + 0) (ev_toStr2 (d := d + 2) b7 lj_ProphecyShopLaw_44_1 rfl d_PL_isAs_446 (fun G6 hT hF => ?_)) (by omega) (by omega)
          have hG6 : LM vc 0 535 (st3 μ9 12 0 12 (nI s7)) G6 G6 := ⟨fun K j hv => (hF _ (by have := (okC.2 K j hv).2; omega)).trans (p4.1 K j hv), fun _ _ => rfl⟩
          have hlen : (qtO v b w).length ≤ 71 := by
            have : (qtO v b w).length ≤ 3 * w - 1 := qtx_len1 (fun k hk => by
              obtain ⟨f, -, f2, f3⟩ := hqf k hk
              show (v 77 b k).toNatClampNeg < 24
              rw [f3, nI_clamp (by omega)]
              exact f2)
            omega
          have h128 : ∀ i, i < (qtO v b w).length → (qtO v b w).getD i 0 < 128 := fun i hi => okW qtO_128 hi
          have hOu : OUTR G6 (nx7 + 2) ((st3 μ9 12 0 12 (nI s7)) 12 0 12) (qtO v b w) := ⟨hlen, h128, Or.inr ⟨s7, by rw [st3_ua, ua_S], by omega, by omega, by omega, STo.keep p5 (hF _ (by omega)) (hF _ (by omega))⟩⟩
          refine Ev.z9 (cw_S [.inr (0, off 12 0), .inl (.int (nI (qtO v b w).length)), .inr (0, nx7)] lk_ProphecyShopLaw_158 (M_isOutput (d + 2) hS hG6 hOu (SR.ofSTo hT (fun i _ => rfl) h128 (by omega) (by omega))) rfl rfl d_PL_isAs_449 (aft_ro ?_))
          refine ev_if_eq (tgt := 459) (by decide) d_PL_isAs_452 (fun c => absurd c (by decide)) (fun _ => ?_)
          refine cw_iconst 1 d_PL_isAs_455 rfl ?_
          refine ev_goto (tgt := 460) (by decide) d_PL_isAs_456 ?_
          exact ev_ireturn (st := []) rfl rfl d_PL_isAs_460 ⟨rfl, _, hG6, hL9.tr FrL.out, fun q q1 q2 => (hF q (by omega)).trans ((p6 q q1 (by omega)).trans ((hF8 q q2).trans ((hK9 q q1 (by omega)).trans (hF1 q q2)))), by show nx ≤ nx7 + 2; omega, by show nx7 + 2 ≤ nx + 2100; omega⟩
        · obtain ⟨hw9, -⟩ := hP
          cases hw9
      have KM : Ev g (d + 8) m_PL_isAs 384 [some (.inr (0, off 12 0)), some (.inr (0, off 60 b)), some (.inl (.int day)), some (.inr (0, nx)), some (.inl (.int (sm (fun p => rO c0 b v (80 + 10 * p + 6)) n))), some (.inl (.int (nI n - nI (cnt (rO c0 b v) 0 n)))), some (.inl (.int 1))] [] (G8, nx8) 62 7146 (pLk G nx 2100 μ) := by
        refine ev_aload_n (k0 := 0) rfl d_PL_isAs_384 ?_
        refine Ev.z9 (cv_V [] hG8 v_12 rfl lk_ProphecyShopLaw_289 (w_P_meanPrice (d + 6) hG8 (P_meanPrice hQ9)) rfl rfl d_PL_isAs_385 (aft_ro ?_))
        refine ev_aload_n (k0 := 1) rfl d_PL_isAs_388 ?_
        refine cv_getN (.inl (.int (v 60 b 10))) hO8 vo_0 gn_190 rfl rfl d_PL_isAs_389 ?_
        rw [a10']
        have K8 : Ev g (d + 8) m_PL_isAs 408 [some (.inr (0, off 12 0)), some (.inr (0, off 60 b)), some (.inl (.int day)), some (.inr (0, nx)), some (.inl (.int (sm (fun p => rO c0 b v (80 + 10 * p + 6)) n))), some (.inl (.int (nI n - nI (cnt (rO c0 b v) 0 n)))), some (.inl (.int 1))] [.inl (.double (if nI n = 0 then FP.dconst0 else FP.ddiv (FP.i2d (sm (fun p => rO c0 b v (80 + 10 * p + 6)) n)) (FP.i2d (nI n)))), .inl (.double (if nI n = 0 then FP.dconst0 else FP.ddiv (FP.i2d (sm (fun p => rO c0 b v (80 + 10 * p + 6)) n)) (FP.i2d (nI n))))] (G8, nx8) 62 7146 (pLk G nx 2100 μ) := by
          refine ev_dcmp d_PL_isAs_408 ?_
          rw [cmpD_rf hnd]
          exact ev_if_ne (tgt := 423) (by decide) d_PL_isAs_409 (fun c => absurd rfl c) (fun _ => KZ)
        refine ev_if_ne (tgt := 399) (by decide) d_PL_isAs_392 (fun c => ?_) (fun c => ?_)
        · rw [if_neg c] at K8 ⊢
          refine ev_iload (i := 4) rfl d_PL_isAs_399 ?_
          refine ev_i2d d_PL_isAs_401 ?_
          refine ev_aload_n (k0 := 1) rfl d_PL_isAs_402 ?_
          refine cv_getN (.inl (.int (v 60 b 10))) hO8 vo_0 gn_190 rfl rfl d_PL_isAs_403 ?_
          rw [a10']
          refine ev_i2d d_PL_isAs_406 ?_
          refine ev_ddiv (okD9_n (okD9_div c)) d_PL_isAs_407 ?_
          exact K8
        · rw [if_pos c] at K8 ⊢
          refine ev_dconst0 d_PL_isAs_395 ?_
          refine ev_goto (tgt := 408) (by decide) d_PL_isAs_396 ?_
          exact K8
      refine ev_aload_n (k0 := 0) rfl d_PL_isAs_230 ?_
      refine Ev.z9 (cv_V [] hG8 v_12 rfl lk_ProphecyShopLaw_239 (w_P_day (d + 7) hG8 (P_day hQ9)) rfl rfl d_PL_isAs_231 (aft_ro ?_))
      refine ev_aload_n (k0 := 1) rfl d_PL_isAs_234 ?_
      refine cv_getN (.inl (.int (v 60 b 5))) hO8 vo_0 gn_151 rfl rfl d_PL_isAs_235 ?_
      refine ev_icmp_ne (tgt := 344) (by decide) d_PL_isAs_238 (fun c => absurd rfl c) (fun _ => ?_)
      refine ev_aload_n (k0 := 0) rfl d_PL_isAs_241 ?_
      refine Ev.z9 (cv_V [] hG8 v_12 rfl lk_ProphecyShopLaw_241 (w_P_cash (d + 7) hG8 (P_cash hQ9)) rfl rfl d_PL_isAs_242 (aft_ro ?_))
      refine ev_aload_n (k0 := 1) rfl d_PL_isAs_245 ?_
      refine cv_getN (.inl (.int (v 60 b 0))) hO8 vo_0 gn_244 rfl rfl d_PL_isAs_246 ?_
      refine ev_icmp_ne (tgt := 344) (by decide) d_PL_isAs_249 (fun c => absurd rfl c) (fun _ => ?_)
      refine ev_aload_n (k0 := 0) rfl d_PL_isAs_252 ?_
      refine Ev.z9 (cv_V [] hG8 v_12 rfl lk_ProphecyShopLaw_246 (w_P_eventCount (d + 7) hG8 (P_eventCount h129 hQ9)) rfl rfl d_PL_isAs_253 (aft_ro ?_))
      refine ev_aload_n (k0 := 1) rfl d_PL_isAs_256 ?_
      refine cv_getN (.inl (.int (v 60 b 6))) hO8 vo_0 gn_165 rfl rfl d_PL_isAs_257 ?_
      refine ev_icmp_ne (tgt := 344) (by decide) d_PL_isAs_260 (fun c => absurd rfl c) (fun _ => ?_)
      refine ev_aload_n (k0 := 0) rfl d_PL_isAs_263 ?_
      refine Ev.z9 (cv_V [] hG8 v_12 rfl lk_ProphecyShopLaw_249 (w_P_placeCount (d + 7) hG8 (P_placeCount h129 hQ9)) rfl rfl d_PL_isAs_264 (aft_ro ?_))
      refine ev_aload_n (k0 := 1) rfl d_PL_isAs_267 ?_
      refine cv_getN (.inl (.int (v 60 b 7))) hO8 vo_0 gn_162 rfl rfl d_PL_isAs_268 ?_
      refine ev_icmp_ne (tgt := 344) (by decide) d_PL_isAs_271 (fun c => absurd rfl c) (fun _ => ?_)
      refine ev_aload_n (k0 := 0) rfl d_PL_isAs_274 ?_
      refine Ev.z9 (cv_V [] hG8 v_12 rfl lk_ProphecyShopLaw_252 (w_P_customerCount (d + 7) hG8 (P_customerCount h129 hQ9)) rfl rfl d_PL_isAs_275 (aft_ro ?_))
      refine ev_aload_n (k0 := 1) rfl d_PL_isAs_278 ?_
      refine cv_getN (.inl (.int (v 60 b 8))) hO8 vo_0 gn_203 rfl rfl d_PL_isAs_279 ?_
      refine ev_icmp_ne (tgt := 344) (by decide) d_PL_isAs_282 (fun c => absurd rfl c) (fun _ => ?_)
      refine ev_aload_n (k0 := 0) rfl d_PL_isAs_285 ?_
      refine Ev.z9 (cv_V [] hG8 v_12 rfl lk_ProphecyShopLaw_255 (w_P_prophecyCount (d + 7) hG8 (P_prophecyCount hQ9)) rfl rfl d_PL_isAs_286 (aft_ro ?_))
      refine ev_aload_n (k0 := 1) rfl d_PL_isAs_289 ?_
      refine cv_getN (.inl (.int (v 60 b 10))) hO8 vo_0 gn_190 rfl rfl d_PL_isAs_290 ?_
      refine ev_icmp_ne (tgt := 344) (by decide) d_PL_isAs_293 (fun c => absurd rfl c) (fun _ => ?_)
      refine ev_aload_n (k0 := 0) rfl d_PL_isAs_296 ?_
      refine Ev.z9 (cv_V [] hG8 v_12 rfl lk_ProphecyShopLaw_258 (w_P_queueLength (d + 7) hG8 (P_queueLength hQ9)) rfl rfl d_PL_isAs_297 (aft_ro ?_))
      refine ev_aload_n (k0 := 1) rfl d_PL_isAs_300 ?_
      refine cv_getN (.inl (.int (v 60 b 12))) hO8 vo_0 gn_229 rfl rfl d_PL_isAs_301 ?_
      refine ev_icmp_ne (tgt := 344) (by decide) d_PL_isAs_304 (fun c => absurd rfl c) (fun _ => ?_)
      refine ev_aload_n (k0 := 0) rfl d_PL_isAs_307 ?_
      refine Ev.z9 (cv_V [] hG8 v_12 rfl lk_ProphecyShopLaw_261 (w_P_idleOwls (d + 6) hG8 (P_idleOwls h129 hQ9)) rfl rfl d_PL_isAs_308 (aft_ro ?_))
      refine ev_aload_n (k0 := 1) rfl d_PL_isAs_311 ?_
      refine Ev.z9 (cv_V [] hO8 vo_0 rfl lk_ProphecyShopLaw_264 (w_Own_idles (d + 7) vo_0 hO8 (O_idles a9r hO5)) rfl rfl d_PL_isAs_312 (aft_ro ?_))
      refine ev_icmp_ne (tgt := 344) (by decide) d_PL_isAs_315 (fun c => absurd rfl c) (fun _ => ?_)
      refine ev_aload_n (k0 := 0) rfl d_PL_isAs_318 ?_
      refine Ev.z9 (cv_V [] hG8 v_12 rfl lk_ProphecyShopLaw_267 (w_P_handledRequests (d + 7) hG8 (P_handled hQ9)) rfl rfl d_PL_isAs_319 (aft_ro ?_))
      refine ev_aload_n (k0 := 1) rfl d_PL_isAs_322 ?_
      refine cv_getN (.inl (.int (v 60 b 13))) hO8 vo_0 gn_270 rfl rfl d_PL_isAs_323 ?_
      refine ev_icmp_ne (tgt := 344) (by decide) d_PL_isAs_326 (fun c => absurd rfl c) (fun _ => ?_)
      refine ev_aload_n (k0 := 0) rfl d_PL_isAs_329 ?_
      refine Ev.z9 (cv_V [] hG8 v_12 rfl lk_ProphecyShopLaw_273 (w_P_refundTotal (d + 7) hG8 (P_refundTotal hQ9)) rfl rfl d_PL_isAs_330 (aft_ro ?_))
      refine ev_aload_n (k0 := 1) rfl d_PL_isAs_333 ?_
      refine cv_getN (.inl (.int (v 60 b 14))) hO8 vo_0 gn_276 rfl rfl d_PL_isAs_334 ?_
      refine ev_icmp_ne (tgt := 344) (by decide) d_PL_isAs_337 (fun c => absurd rfl c) (fun _ => ?_)
      refine cw_iconst 1 d_PL_isAs_340 rfl ?_
      refine ev_goto (tgt := 345) (by decide) d_PL_isAs_341 ?_
      refine cw_istoreN 6 1 rfl [some (.inr (0, off 12 0)), some (.inr (0, off 60 b)), some (.inl (.int day)), some (.inr (0, nx)), some (.inl (.int (sm (fun p => rO c0 b v (80 + 10 * p + 6)) n))), some (.inl (.int (nI n - nI (cnt (rO c0 b v) 0 n)))), some (.inl (.int 1))] d_PL_isAs_345 rfl rfl rfl ?_
      refine ev_iload (i := 6) rfl d_PL_isAs_347 ?_
      refine ev_if_eq (tgt := 423) (by decide) d_PL_isAs_349 (fun c => absurd c (by decide)) (fun _ => ?_)
      refine ev_aload_n (k0 := 0) rfl d_PL_isAs_352 ?_
      refine Ev.z9 (cv_V [] hG8 v_12 rfl lk_ProphecyShopLaw_279 (w_P_truthShare (d + 6) hG8 (P_truthShare hQ9)) rfl rfl d_PL_isAs_353 (aft_ro ?_))
      refine Ev.z9 (cw_S [.inl (.float (if nI n - nI (cnt (rO c0 b v) 0 n) = 0 then FP.fconst0 else FP.fdiv (FP.i2f (nI (cnt (rO c0 b v) 1 n))) (FP.i2f (nI n - nI (cnt (rO c0 b v) 0 n)))))] lk_ProphecyShopLaw_283 (M_floatBits (d + 6) (cmpF_rf hnf)) rfl rfl d_PL_isAs_356 (aft_ro ?_))
      have K8 : Ev g (d + 8) m_PL_isAs 378 [some (.inr (0, off 12 0)), some (.inr (0, off 60 b)), some (.inl (.int day)), some (.inr (0, nx)), some (.inl (.int (sm (fun p => rO c0 b v (80 + 10 * p + 6)) n))), some (.inl (.int (nI n - nI (cnt (rO c0 b v) 0 n)))), some (.inl (.int 1))] [.inl (.float (if nI n - nI (cnt (rO c0 b v) 0 n) = 0 then FP.fconst0 else FP.fdiv (FP.i2f (nI (cnt (rO c0 b v) 1 n))) (FP.i2f (nI n - nI (cnt (rO c0 b v) 0 n))))), .inl (.int (if nI n - nI (cnt (rO c0 b v) 0 n) = 0 then FP.fconst0 else FP.fdiv (FP.i2f (nI (cnt (rO c0 b v) 1 n))) (FP.i2f (nI n - nI (cnt (rO c0 b v) 0 n)))).toInt32)] (G8, nx8) 62 7146 (pLk G nx 2100 μ) := by
        refine Ev.z9 (cw_S [.inl (.float (if nI n - nI (cnt (rO c0 b v) 0 n) = 0 then FP.fconst0 else FP.fdiv (FP.i2f (nI (cnt (rO c0 b v) 1 n))) (FP.i2f (nI n - nI (cnt (rO c0 b v) 0 n)))))] lk_ProphecyShopLaw_283 (M_floatBits (d + 6) (cmpF_rf hnf)) rfl rfl d_PL_isAs_378 (aft_ro ?_))
        exact ev_icmp_ne (tgt := 423) (by decide) d_PL_isAs_381 (fun c => absurd rfl c) (fun _ => KM)
      refine ev_iload (i := 5) rfl d_PL_isAs_359 ?_
      refine ev_if_ne (tgt := 368) (by decide) d_PL_isAs_361 (fun c => ?_) (fun c => ?_)
      · rw [if_neg c] at K8 ⊢
        refine ev_aload_n (k0 := 1) rfl d_PL_isAs_368 ?_
        refine cw_iconst 1 d_PL_isAs_369 rfl ?_
        refine Ev.z9 (cv_V [.inl (.int 1)] hO8 vo_0 rfl lk_ProphecyShopLaw_193 (w_Own_many (d + 7) vo_0 hO8 (O_many a10 hn)) rfl rfl d_PL_isAs_370 (aft_ro ?_))
        refine ev_i2f d_PL_isAs_373 ?_
        refine ev_iload (i := 5) rfl d_PL_isAs_374 ?_
        refine ev_i2f d_PL_isAs_376 ?_
        refine ev_fdiv (okF9_n (okF9_div c)) d_PL_isAs_377 ?_
        exact K8
      · rw [if_pos c] at K8 ⊢
        refine ev_fconst0 d_PL_isAs_364 ?_
        refine ev_goto (tgt := 378) (by decide) d_PL_isAs_365 ?_
        exact K8
    have TXT : ∀ j k G8 nx8, k + j = w → BI 71 G9 nx nx (1922 + 2 * k) (qtO v b k) (G8, nx8) → (∀ q, q < nx → G8 q = G9 q) → Ev g (d + 8) m_PL_isAs 188 [some (.inr (0, off 12 0)), some (.inr (0, off 60 b)), some (.inl (.int day)), some (.inr (0, nx)), some (.inl (.int (sm (fun p => rO c0 b v (80 + 10 * p + 6)) n))), some (.inl (.int (nI n - nI (cnt (rO c0 b v) 0 n)))), some (.inl (.int (nI k)))] [] (G8, nx8) (2 * j + 62) (284 * j + 7146) (pLk G nx 2100 μ) := by
      intro j
      induction j with
      | zero =>
        intro k G8 nx8 hk b8 hF8
        obtain rfl : k = w := by omega
        have hO8 : LM (vo b) b (b + 21) v G8 G8 := KB.own (nx := nx) (fun q _ h => hF8 q h) hO9 hb hb2
        refine ev_iload (i := 6) rfl d_PL_isAs_188 ?_
        refine ev_aload_n (k0 := 1) rfl d_PL_isAs_190 ?_
        refine cv_getN (.inl (.int (v 60 b 12))) hO8 vo_0 gn_229 rfl rfl d_PL_isAs_191 ?_
        rw [a12']
        refine ev_icmp_ge (tgt := 230) (by decide) d_PL_isAs_194 (fun _ => ?_) (fun c => absurd (nI_le (Nat.le_refl _) (by omega)) c)
        refine Ev.sub (ls' := [some (.inr (0, off 12 0)), some (.inr (0, off 60 b)), some (.inl (.int day)), some (.inr (0, nx)), some (.inl (.int (sm (fun p => rO c0 b v (80 + 10 * p + 6)) n))), some (.inl (.int (nI n - nI (cnt (rO c0 b v) 0 n)))), none]) (LSb.s (LSb.s (LSb.s (LSb.s (LSb.s (LSb.s (LSb.n LSb.z))))))) ?_
        exact Ev.room (ASK G8 nx8 (b8.le (by omega)) hF8) (by omega) (by omega)
      | succ j ih =>
        intro k G8 nx8 hk b8 hF8
        have hO8 : LM (vo b) b (b + 21) v G8 G8 := KB.own (nx := nx) (fun q _ h => hF8 q h) hO9 hb hb2
        obtain ⟨f, f1, f2, f3⟩ := hqf k (by omega)
        have hlen : (qtO v b k).length ≤ 3 * k - 1 := qtx_len1 (fun i hi => by
          obtain ⟨f, -, f2, f3⟩ := hqf i (by omega)
          show (v 77 b i).toNatClampNeg < 24
          rw [f3, nI_clamp (by omega)]
          exact f2)
        have hd2 := dl_24 f2
        have hk1 : (qtO v b k ++ (if k = 0 then [] else [44])).length ≤ 3 * k := by
          rw [List.length_append]
          by_cases e : k = 0
          · subst e
            exact Nat.le_refl _
          · rw [if_neg e]
            show _ + 1 ≤ _
            omega
        refine ev_iload (i := 6) rfl d_PL_isAs_188 ?_
        refine ev_aload_n (k0 := 1) rfl d_PL_isAs_190 ?_
        refine cv_getN (.inl (.int (v 60 b 12))) hO8 vo_0 gn_229 rfl rfl d_PL_isAs_191 ?_
        rw [a12']
        refine ev_icmp_ge (tgt := 230) (by decide) d_PL_isAs_194 (fun c => absurd c (nI_ge (show k < w by omega) (by omega))) (fun _ => ?_)
        have KA : ∀ (w9 : Nat) (x : List Nat), w9 < 28 → sTx w9 = x.map nI → x = (if k = 0 then [] else [44]) → Ev g (d + 8) m_PL_isAs 210 [some (.inr (0, off 12 0)), some (.inr (0, off 60 b)), some (.inl (.int day)), some (.inr (0, nx)), some (.inl (.int (sm (fun p => rO c0 b v (80 + 10 * p + 6)) n))), some (.inl (.int (nI n - nI (cnt (rO c0 b v) 0 n)))), some (.inl (.int (nI k)))] [.inr (1, w9), .inr (0, nx)] (G8, nx8) (2 * j + 64) (284 * j + 7430) (pLk G nx 2100 μ) := by
          intro w9 x hw9 hs9 hx
          have hxl : x.length ≤ 1 := by rw [hx]; split <;> simp
          have hx128 : ∀ i, i < x.length → x.getD i 0 < 128 := fun i hi => okW (fun y hy => by
            rw [hx] at hy
            split at hy
            · exact absurd hy List.not_mem_nil
            · simp at hy
              omega) hi
          refine Ev.room (mc := 1 + (2 * j + 63)) (ms := 2 * 71 + (284 * j + 7288)) (ev_appS (B := 71) (d := d + 3) (k9 := 0) b8 ⟨Nat.le_refl _, Nat.le_refl _⟩ (fun _ _ => rfl) (SR.of hS hw9 hs9 hx128) (fun z => (Nat.one_ne_zero z).elim) lj_ProphecyShopLaw_38_1 (by omega) rfl d_PL_isAs_210 (fun M7 b7 => ?_)) (by omega) (by omega)
          have n7 : nx ≤ M7.2 ∧ M7.2 ≤ nx + (1922 + 2 * k + 0 + 1) := ⟨b7.nx, by obtain ⟨_, _, _, _, h, _⟩ := id b7; exact h.2⟩
          obtain ⟨G7, nx7⟩ := M7
          have hF7 : ∀ q, q < nx → G7 q = G9 q := by obtain ⟨-, -, -, -, -, h⟩ := b7; exact h
          have hO7 : LM (vo b) b (b + 21) v G7 G7 := KB.own (nx := nx) (fun q _ h => hF7 q h) hO9 hb hb2
          refine ev_aload_n (k0 := 1) rfl d_PL_isAs_213 ?_
          refine cv_getN (.inr (0, off 77 b)) hO7 vo_0 gn_236 rfl rfl d_PL_isAs_214 ?_
          refine ev_iload (i := 6) rfl d_PL_isAs_217 ?_
          refine cv_iald hO7 (voK (by decide) (by decide)) rfl rfl (show inb (nI k) 24 = true from inb_of (by omega) (by omega)) rfl d_PL_isAs_219 ?_
          rw [nI_clamp (by omega)]
          rw [f3]
          refine Ev.room (mc := 1 + (2 * j + 62)) (ms := 2 * 71 + (284 * j + 7146)) (ev_appI (B := 71) (d := d + 3) hD b7 lj_ProphecyShopLaw_87_1 (by omega) (by rw [List.length_append]; rw [List.length_append, ← hx] at hk1; omega) rfl d_PL_isAs_220 (fun M6 b6 => ?_)) (by omega) (by omega)
          obtain ⟨G6, nx6⟩ := M6
          have hF6 : ∀ q, q < nx → G6 q = G9 q := by obtain ⟨-, -, -, -, -, h⟩ := b6; exact h
          refine ev_pop rfl d_PL_isAs_223 ?_
          refine cw_iincN 6 1 [some (.inr (0, off 12 0)), some (.inr (0, off 60 b)), some (.inl (.int day)), some (.inr (0, nx)), some (.inl (.int (sm (fun p => rO c0 b v (80 + 10 * p + 6)) n))), some (.inl (.int (nI n - nI (cnt (rO c0 b v) 0 n)))), some (.inl (.int (nI (k + 1))))] d_PL_isAs_224 rfl rfl rfl rfl (by rw [show nI (k + 1) = nI k + 1 from (nI_add _ _).symm]; rfl) ?_
          refine ev_goto (tgt := 188) (by decide) d_PL_isAs_227 ?_
          refine ih (k + 1) G6 nx6 (by omega) ((b6.at ?_).le (by omega)) hF6
          show (qtO v b k ++ x) ++ digs f = (qtO v b k ++ (if k = 0 then [] else [44])) ++ digs (v 77 b k).toNatClampNeg
          rw [hx, f3, nI_clamp (by omega)]
        refine ev_aload_n (k0 := 3) rfl d_PL_isAs_197 ?_
        refine ev_iload (i := 6) rfl d_PL_isAs_198 ?_
        refine ev_if_le (tgt := 208) (by decide) d_PL_isAs_200 (fun c => ?_) (fun c => ?_)
        · have e : k = 0 := by
            by_cases e : k = 0
            · exact e
            · exact absurd c (show ¬ nI k ≤ 0 from nI_ge (a := 0) (by omega) (by omega))
          refine ev_ldcS (i := 18) (tx := "") (by decide) d_PL_isAs_208 ?_
          exact Ev.room (KA 18 [] (by decide) rfl (by rw [if_pos e])) (by omega) (by omega)
        · have e : k ≠ 0 := fun e => by subst e; exact c (by decide)
          refine ev_ldcS (i := 17) (tx := ",") (by decide) d_PL_isAs_203 ?_
          refine ev_goto (tgt := 210) (by decide) d_PL_isAs_205 ?_
          exact Ev.room (KA 17 [44] (by decide) rfl (by rw [if_neg e])) (by omega) (by omega)
    have CNT : ∀ j k, k + j = 4 → Ev g (d + 8) m_PL_isAs 156 [some (.inr (0, off 12 0)), some (.inr (0, off 60 b)), some (.inl (.int day)), some (.inr (0, nx)), some (.inl (.int (sm (fun p => rO c0 b v (80 + 10 * p + 6)) n))), some (.inl (.int (nI n - nI (cnt (rO c0 b v) 0 n)))), some (.inl (.int (nI k)))] [] (G9, nx9) 124 14100 (pLk G nx 2100 μ) := by
      intro j
      induction j with
      | zero =>
        intro k hk
        obtain rfl : k = 4 := by omega
        refine ev_iload (i := 6) rfl d_PL_isAs_156 ?_
        refine cw_iconst 4 d_PL_isAs_158 rfl ?_
        refine ev_icmp_ge (tgt := 185) (by decide) d_PL_isAs_159 (fun _ => ?_) (fun c => absurd (by decide) c)
        refine cw_iconst 0 d_PL_isAs_185 rfl ?_
        refine cw_istoreN 6 (nI 0) rfl [some (.inr (0, off 12 0)), some (.inr (0, off 60 b)), some (.inl (.int day)), some (.inr (0, nx)), some (.inl (.int (sm (fun p => rO c0 b v (80 + 10 * p + 6)) n))), some (.inl (.int (nI n - nI (cnt (rO c0 b v) 0 n)))), some (.inl (.int (nI 0)))] d_PL_isAs_186 rfl rfl rfl ?_
        exact Ev.room (TXT w 0 G9 nx9 (by omega) (b1' G9 nx9 1920 hK9 ⟨hn9, hx9⟩) (fun _ _ => rfl)) (by omega) (by omega)
      | succ j ih =>
        intro k hk
        refine ev_iload (i := 6) rfl d_PL_isAs_156 ?_
        refine cw_iconst 4 d_PL_isAs_158 rfl ?_
        refine ev_icmp_ge (tgt := 185) (by decide) d_PL_isAs_159 (fun c => absurd c (show ¬ nI 4 ≤ nI k from nI_ge (by omega) (by omega))) (fun _ => ?_)
        refine ev_aload_n (k0 := 0) rfl d_PL_isAs_162 ?_
        refine ev_iload (i := 6) rfl d_PL_isAs_163 ?_
        refine Ev.z9 (cv_V [.inl (.int (nI k))] hG9 v_12 rfl lk_ProphecyShopLaw_226 (w_P_countIn (d + 6) hG9 (P_countIn hQ9 (by omega))) rfl rfl d_PL_isAs_165 (aft_ro ?_))
        refine ev_aload_n (k0 := 1) rfl d_PL_isAs_168 ?_
        refine ev_iload (i := 6) rfl d_PL_isAs_169 ?_
        refine Ev.z9 (cv_V [.inl (.int (nI k))] hO9 vo_0 rfl lk_ProphecyShopLaw_193 (w_Own_many (d + 7) vo_0 hO9 (O_many a10 hn)) rfl rfl d_PL_isAs_171 (aft_ro ?_))
        refine ev_icmp_eq (tgt := 179) (by decide) d_PL_isAs_174 (fun _ => ?_) (fun c => absurd rfl c)
        refine cw_iincN 6 1 [some (.inr (0, off 12 0)), some (.inr (0, off 60 b)), some (.inl (.int day)), some (.inr (0, nx)), some (.inl (.int (sm (fun p => rO c0 b v (80 + 10 * p + 6)) n))), some (.inl (.int (nI n - nI (cnt (rO c0 b v) 0 n)))), some (.inl (.int (nI (k + 1))))] d_PL_isAs_179 rfl rfl rfl rfl (by rw [show nI (k + 1) = nI k + 1 from (nI_add _ _).symm]; rfl) ?_
        refine ev_goto (tgt := 156) (by decide) d_PL_isAs_182 ?_
        exact ih (k + 1) (by omega)
    have OWL : ∀ j k, k + j = O → Ev g (d + 8) m_PL_isAs 104 [some (.inr (0, off 12 0)), some (.inr (0, off 60 b)), some (.inl (.int day)), some (.inr (0, nx)), some (.inl (.int (sm (fun p => rO c0 b v (80 + 10 * p + 6)) n))), some (.inl (.int (nI n - nI (cnt (rO c0 b v) 0 n)))), some (.inl (.int (nI k)))] [] (G9, nx9) 124 14100 (pLk G nx 2100 μ) := by
      intro j
      induction j with
      | zero =>
        intro k hk
        obtain rfl : k = O := by omega
        refine ev_iload (i := 6) rfl d_PL_isAs_104 ?_
        refine ev_aload_n (k0 := 1) rfl d_PL_isAs_106 ?_
        refine cv_getN (.inl (.int (v 60 b 9))) hO9 vo_0 gn_211 rfl rfl d_PL_isAs_107 ?_
        rw [a9]
        refine ev_icmp_ge (tgt := 153) (by decide) d_PL_isAs_110 (fun _ => ?_) (fun c => absurd (nI_le (Nat.le_refl _) (by omega)) c)
        refine cw_iconst 0 d_PL_isAs_153 rfl ?_
        refine cw_istoreN 6 (nI 0) rfl [some (.inr (0, off 12 0)), some (.inr (0, off 60 b)), some (.inl (.int day)), some (.inr (0, nx)), some (.inl (.int (sm (fun p => rO c0 b v (80 + 10 * p + 6)) n))), some (.inl (.int (nI n - nI (cnt (rO c0 b v) 0 n)))), some (.inl (.int (nI 0)))] d_PL_isAs_154 rfl rfl rfl ?_
        exact CNT 4 0 (by omega)
      | succ j ih =>
        intro k hk
        refine ev_iload (i := 6) rfl d_PL_isAs_104 ?_
        refine ev_aload_n (k0 := 1) rfl d_PL_isAs_106 ?_
        refine cv_getN (.inl (.int (v 60 b 9))) hO9 vo_0 gn_211 rfl rfl d_PL_isAs_107 ?_
        rw [a9]
        refine ev_icmp_ge (tgt := 153) (by decide) d_PL_isAs_110 (fun c => absurd c (nI_ge (show k < O by omega) (by omega))) (fun _ => ?_)
        refine ev_aload_n (k0 := 0) rfl d_PL_isAs_113 ?_
        refine ev_iload (i := 6) rfl d_PL_isAs_114 ?_
        refine Ev.z9 (cv_V [.inl (.int (nI k))] hG9 v_12 rfl lk_ProphecyShopLaw_214 (w_P_owlDays (d + 6) hG9 (P_owlDays h129 hQ9 (by omega))) rfl rfl d_PL_isAs_116 (aft_ro ?_))
        refine ev_aload_n (k0 := 1) rfl d_PL_isAs_119 ?_
        refine cv_getN (.inr (0, off 64 b)) hO9 vo_0 gn_217 rfl rfl d_PL_isAs_120 ?_
        refine ev_iload (i := 6) rfl d_PL_isAs_123 ?_
        refine cv_iald hO9 (voK (by decide) (by decide)) rfl rfl (show inb (nI k) 5 = true from inb_of (by omega) (by omega)) rfl d_PL_isAs_125 ?_
        rw [nI_clamp (by omega)]
        refine ev_icmp_ne (tgt := 145) (by decide) d_PL_isAs_126 (fun c => absurd rfl c) (fun _ => ?_)
        refine ev_aload_n (k0 := 0) rfl d_PL_isAs_129 ?_
        refine ev_iload (i := 6) rfl d_PL_isAs_130 ?_
        refine Ev.z9 (cv_V [.inl (.int (nI k))] hG9 v_12 rfl lk_ProphecyShopLaw_220 (w_P_owlCoins (d + 6) hG9 (P_owlCoins h129 hQ9 (by omega))) rfl rfl d_PL_isAs_132 (aft_ro ?_))
        refine ev_aload_n (k0 := 1) rfl d_PL_isAs_135 ?_
        refine cv_getN (.inr (0, off 65 b)) hO9 vo_0 gn_223 rfl rfl d_PL_isAs_136 ?_
        refine ev_iload (i := 6) rfl d_PL_isAs_139 ?_
        refine cv_iald hO9 (voK (by decide) (by decide)) rfl rfl (show inb (nI k) 5 = true from inb_of (by omega) (by omega)) rfl d_PL_isAs_141 ?_
        rw [nI_clamp (by omega)]
        refine ev_icmp_eq (tgt := 147) (by decide) d_PL_isAs_142 (fun _ => ?_) (fun c => absurd rfl c)
        refine cw_iincN 6 1 [some (.inr (0, off 12 0)), some (.inr (0, off 60 b)), some (.inl (.int day)), some (.inr (0, nx)), some (.inl (.int (sm (fun p => rO c0 b v (80 + 10 * p + 6)) n))), some (.inl (.int (nI n - nI (cnt (rO c0 b v) 0 n)))), some (.inl (.int (nI (k + 1))))] d_PL_isAs_147 rfl rfl rfl rfl (by rw [show nI (k + 1) = nI k + 1 from (nI_add _ _).symm]; rfl) ?_
        refine ev_goto (tgt := 104) (by decide) d_PL_isAs_150 ?_
        exact ih (k + 1) (by omega)
    have PUR : ∀ j k, k + j = C → Ev g (d + 8) m_PL_isAs 68 [some (.inr (0, off 12 0)), some (.inr (0, off 60 b)), some (.inl (.int day)), some (.inr (0, nx)), some (.inl (.int (sm (fun p => rO c0 b v (80 + 10 * p + 6)) n))), some (.inl (.int (nI n - nI (cnt (rO c0 b v) 0 n)))), some (.inl (.int (nI k)))] [] (G9, nx9) 124 14100 (pLk G nx 2100 μ) := by
      intro j
      induction j with
      | zero =>
        intro k hk
        obtain rfl : k = C := by omega
        refine ev_iload (i := 6) rfl d_PL_isAs_68 ?_
        refine ev_aload_n (k0 := 1) rfl d_PL_isAs_70 ?_
        refine cv_getN (.inl (.int (v 60 b 8))) hO9 vo_0 gn_203 rfl rfl d_PL_isAs_71 ?_
        rw [a8]
        refine ev_icmp_ge (tgt := 101) (by decide) d_PL_isAs_74 (fun _ => ?_) (fun c => absurd (nI_le (Nat.le_refl _) (by omega)) c)
        refine cw_iconst 0 d_PL_isAs_101 rfl ?_
        refine cw_istoreN 6 (nI 0) rfl [some (.inr (0, off 12 0)), some (.inr (0, off 60 b)), some (.inl (.int day)), some (.inr (0, nx)), some (.inl (.int (sm (fun p => rO c0 b v (80 + 10 * p + 6)) n))), some (.inl (.int (nI n - nI (cnt (rO c0 b v) 0 n)))), some (.inl (.int (nI 0)))] d_PL_isAs_102 rfl rfl rfl ?_
        exact OWL O 0 (by omega)
      | succ j ih =>
        intro k hk
        refine ev_iload (i := 6) rfl d_PL_isAs_68 ?_
        refine ev_aload_n (k0 := 1) rfl d_PL_isAs_70 ?_
        refine cv_getN (.inl (.int (v 60 b 8))) hO9 vo_0 gn_203 rfl rfl d_PL_isAs_71 ?_
        rw [a8]
        refine ev_icmp_ge (tgt := 101) (by decide) d_PL_isAs_74 (fun c => absurd c (nI_ge (show k < C by omega) (by omega))) (fun _ => ?_)
        refine ev_aload_n (k0 := 0) rfl d_PL_isAs_77 ?_
        refine ev_iload (i := 6) rfl d_PL_isAs_78 ?_
        refine Ev.z9 (cv_V [.inl (.int (nI k))] hG9 v_12 rfl lk_ProphecyShopLaw_206 (w_P_purse (d + 6) hG9 (P_purse h129 hQ9 (by omega))) rfl rfl d_PL_isAs_80 (aft_ro ?_))
        refine ev_aload_n (k0 := 1) rfl d_PL_isAs_83 ?_
        refine cv_getN (.inr (0, off 61 b)) hO9 vo_0 gn_209 rfl rfl d_PL_isAs_84 ?_
        refine ev_iload (i := 6) rfl d_PL_isAs_87 ?_
        refine cv_iald hO9 (voK (by decide) (by decide)) rfl rfl (show inb (nI k) 8 = true from inb_of (by omega) (by omega)) rfl d_PL_isAs_89 ?_
        rw [nI_clamp (by omega)]
        refine ev_icmp_eq (tgt := 95) (by decide) d_PL_isAs_90 (fun _ => ?_) (fun c => absurd rfl c)
        refine cw_iincN 6 1 [some (.inr (0, off 12 0)), some (.inr (0, off 60 b)), some (.inl (.int day)), some (.inr (0, nx)), some (.inl (.int (sm (fun p => rO c0 b v (80 + 10 * p + 6)) n))), some (.inl (.int (nI n - nI (cnt (rO c0 b v) 0 n)))), some (.inl (.int (nI (k + 1))))] d_PL_isAs_95 rfl rfl rfl rfl (by rw [show nI (k + 1) = nI k + 1 from (nI_add _ _).symm]; rfl) ?_
        refine ev_goto (tgt := 68) (by decide) d_PL_isAs_98 ?_
        exact ih (k + 1) (by omega)
    refine cw_iconst 0 d_PL_isAs_65 rfl ?_
    refine cw_istoreN 6 (nI 0) rfl [some (.inr (0, off 12 0)), some (.inr (0, off 60 b)), some (.inl (.int day)), some (.inr (0, nx)), some (.inl (.int (sm (fun p => rO c0 b v (80 + 10 * p + 6)) n))), some (.inl (.int (nI n - nI (cnt (rO c0 b v) 0 n)))), some (.inl (.int (nI 0)))] d_PL_isAs_66 rfl rfl rfl ?_
    exact PUR C 0 (by omega)
  have PRO : ∀ j k (μ9 : Mem) (G9 : RG) (nx9 : Nat), k + j = n → LM vc 0 535 μ9 G9 G9 → FrL μ μ9 → KB nx1 G1 G9 → nx1 ≤ nx9 → nx9 ≤ nx1 + 80 * k → Ev g (d + 8) m_PL_isAs 26 [some (.inr (0, off 12 0)), some (.inr (0, off 60 b)), some (.inl (.int day)), some (.inr (0, nx)), some (.inl (.int (sm (fun p => rO c0 b v (80 + 10 * p + 6)) k))), some (.inl (.int (nI n - nI (cnt (rO c0 b v) 0 n)))), some (.inl (.int (nI k)))] [] (G9, nx9) (71 * j + 124) (2626 * j + 14100) (pLk G nx 2100 μ) := by
    intro j
    induction j with
    | zero =>
      intro k μ9 G9 nx9 hk hG9 hL9 hK9 hn9 hx9
      obtain rfl : k = n := by omega
      have hO9 : LM (vo b) b (b + 21) v G9 G9 := hK9.own hO1 hb (by omega)
      refine ev_iload (i := 6) rfl d_PL_isAs_26 ?_
      refine ev_aload_n (k0 := 1) rfl d_PL_isAs_28 ?_
      refine cv_getN (.inl (.int (v 60 b 10))) hO9 vo_0 gn_190 rfl rfl d_PL_isAs_29 ?_
      rw [a10']
      refine ev_icmp_ge (tgt := 65) (by decide) d_PL_isAs_32 (fun _ => ?_) (fun c => absurd (nI_le (Nat.le_refl _) (by omega)) c)
      refine Ev.sub (ls' := [some (.inr (0, off 12 0)), some (.inr (0, off 60 b)), some (.inl (.int day)), some (.inr (0, nx)), some (.inl (.int (sm (fun p => rO c0 b v (80 + 10 * p + 6)) k))), some (.inl (.int (nI k - nI (cnt (rO c0 b v) 0 k)))), none]) (LSb.s (LSb.s (LSb.s (LSb.s (LSb.s (LSb.s (LSb.n LSb.z))))))) ?_
      exact Ev.room (REST μ9 G9 nx9 hG9 hL9 hK9 hn9 (by omega)) (by omega) (by omega)
    | succ j ih =>
      intro k μ9 G9 nx9 hk hG9 hL9 hK9 hn9 hx9
      have hO9 : LM (vo b) b (b + 21) v G9 G9 := hK9.own hO1 hb (by omega)
      have hQ9 := hL9.qs hQ
      have h129 : μ9 12 0 3 = nI s := hL9.m12.trans h12
      refine ev_iload (i := 6) rfl d_PL_isAs_26 ?_
      refine ev_aload_n (k0 := 1) rfl d_PL_isAs_28 ?_
      refine cv_getN (.inl (.int (v 60 b 10))) hO9 vo_0 gn_190 rfl rfl d_PL_isAs_29 ?_
      rw [a10']
      refine ev_icmp_ge (tgt := 65) (by decide) d_PL_isAs_32 (fun c => absurd c (nI_ge (show k < n by omega) (by omega))) (fun _ => ?_)
      refine ev_iload (i := 4) rfl d_PL_isAs_35 ?_
      refine ev_aload_n (k0 := 1) rfl d_PL_isAs_37 ?_
      refine cv_getN (.inr (0, off 73 b)) hO9 vo_0 gn_196 rfl rfl d_PL_isAs_38 ?_
      refine ev_iload (i := 6) rfl d_PL_isAs_41 ?_
      refine cv_iald hO9 (voK (by decide) (by decide)) rfl rfl (show inb (nI k) 24 = true from inb_of (by omega) (by omega)) rfl d_PL_isAs_43 ?_
      rw [nI_clamp (by omega)]
      rw [← ro_p6 (c0 := c0) (b := b) (v := v) (show k < 24 by omega)]
      refine ev_iadd d_PL_isAs_44 ?_
      refine cw_istoreN 4 (sm (fun p => rO c0 b v (80 + 10 * p + 6)) (k + 1)) rfl [some (.inr (0, off 12 0)), some (.inr (0, off 60 b)), some (.inl (.int day)), some (.inr (0, nx)), some (.inl (.int (sm (fun p => rO c0 b v (80 + 10 * p + 6)) (k + 1)))), some (.inl (.int (nI n - nI (cnt (rO c0 b v) 0 n)))), some (.inl (.int (nI k)))] d_PL_isAs_45 rfl rfl rfl ?_
      refine ev_aload_n (k0 := 0) rfl d_PL_isAs_47 ?_
      refine ev_aload_n (k0 := 1) rfl d_PL_isAs_48 ?_
      refine ev_iload (i := 6) rfl d_PL_isAs_49 ?_
      refine Ev.room (mc := 71 + (71 * j + 124)) (ms := 2626 + (2626 * j + 14100)) (cw_S [.inr (0, off 12 0), .inr (0, off 60 b), .inl (.int (nI k))] lk_ProphecyShopLaw_199 (M_isProphecy d hD hS hG9 hO9 hb (by omega) (by omega) hQ9 h129 (by omega)) rfl rfl d_PL_isAs_51 ⟨fun w9 M8 hP => ?_, fun E9 M8 hP => by obtain ⟨hv, -⟩ := hP; cases hv⟩) (by omega) (by omega)
      obtain ⟨hw9, μ8, p1, p2, p3, p4, p5⟩ := hP
      cases hw9
      obtain ⟨G8, nx8⟩ := M8
      replace p4 : nx9 ≤ nx8 := p4
      replace p5 : nx8 ≤ nx9 + 80 := p5
      refine ev_if_ne (tgt := 59) (by decide) d_PL_isAs_54 (fun _ => ?_) (fun c => absurd c (by decide))
      refine cw_iincN 6 1 [some (.inr (0, off 12 0)), some (.inr (0, off 60 b)), some (.inl (.int day)), some (.inr (0, nx)), some (.inl (.int (sm (fun p => rO c0 b v (80 + 10 * p + 6)) (k + 1)))), some (.inl (.int (nI n - nI (cnt (rO c0 b v) 0 n)))), some (.inl (.int (nI (k + 1))))] d_PL_isAs_59 rfl rfl rfl rfl (by rw [show nI (k + 1) = nI k + 1 from (nI_add _ _).symm]; rfl) ?_
      refine ev_goto (tgt := 26) (by decide) d_PL_isAs_62 ?_
      exact ih (k + 1) μ8 G8 nx8 (by omega) p1 (hL9.tr p2) (hK9.tr p3 hn9) (by omega) (by omega)
  refine cw_astoreN_n 3 [some (.inr (0, off 12 0)), some (.inr (0, off 60 b)), some (.inl (.int day)), some (.inr (0, nx)), none, none, none] d_PL_isAs_7 rfl rfl rfl ?_
  refine cw_iconst 0 d_PL_isAs_8 rfl ?_
  refine cw_istoreN 4 (sm (fun p => rO c0 b v (80 + 10 * p + 6)) 0) rfl [some (.inr (0, off 12 0)), some (.inr (0, off 60 b)), some (.inl (.int day)), some (.inr (0, nx)), some (.inl (.int (sm (fun p => rO c0 b v (80 + 10 * p + 6)) 0))), none, none] d_PL_isAs_9 rfl rfl rfl ?_
  refine ev_aload_n (k0 := 1) rfl d_PL_isAs_11 ?_
  refine cv_getN (.inl (.int (v 60 b 10))) hO1 vo_0 gn_190 rfl rfl d_PL_isAs_12 ?_
  rw [a10']
  refine ev_aload_n (k0 := 1) rfl d_PL_isAs_15 ?_
  refine cw_iconst 0 d_PL_isAs_16 rfl ?_
  refine Ev.z9 (cv_V [.inl (.int 0)] hO1 vo_0 rfl lk_ProphecyShopLaw_193 (w_Own_many (d + 7) vo_0 hO1 (O_many a10 hn)) rfl rfl d_PL_isAs_17 (aft_ro ?_))
  refine ev_isub d_PL_isAs_20 ?_
  refine cw_istoreN 5 (nI n - nI (cnt (rO c0 b v) 0 n)) rfl [some (.inr (0, off 12 0)), some (.inr (0, off 60 b)), some (.inl (.int day)), some (.inr (0, nx)), some (.inl (.int (sm (fun p => rO c0 b v (80 + 10 * p + 6)) 0))), some (.inl (.int (nI n - nI (cnt (rO c0 b v) 0 n)))), none] d_PL_isAs_21 rfl rfl rfl ?_
  refine cw_iconst 0 d_PL_isAs_23 rfl ?_
  refine cw_istoreN 6 (nI 0) rfl [some (.inr (0, off 12 0)), some (.inr (0, off 60 b)), some (.inl (.int day)), some (.inr (0, nx)), some (.inl (.int (sm (fun p => rO c0 b v (80 + 10 * p + 6)) 0))), some (.inl (.int (nI n - nI (cnt (rO c0 b v) 0 n)))), some (.inl (.int (nI 0)))] d_PL_isAs_24 rfl rfl rfl ?_
  exact Ev.room (PRO n 0 μ G1 nx1 (by omega) hG1 FrL.rf KB.rf (Nat.le_refl _) (by omega)) (by omega) (by omega)
end As

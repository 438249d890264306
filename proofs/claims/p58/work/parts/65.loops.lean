/-! The law's loops. -/
/-- the law's past, at pa: the first K -/
def PST (G : RG) (nx pa K : Nat) (pl : Nat → Nat × Mem) : Prop := (535 ≤ pa ∧ pa < nx) ∧ (∃ fP, G pa = some (true, 8, 52, fP) ∧ ∀ i, i < K → fP i = .inr (0, off 60 (pl i).1)) ∧ ∀ i, i < K → LM (vo (pl i).1) (pl i).1 ((pl i).1 + 21) (pl i).2 G G ∧ 535 ≤ (pl i).1 ∧ (pl i).1 + 21 ≤ nx ∧ (pa < (pl i).1 ∨ (pl i).1 + 21 ≤ pa)
theorem PST.kb {G G' : RG} {nx nx' pa K : Nat} {pl : Nat → Nat × Mem} (h : PST G nx pa K pl) (hk : KB nx G G') (hn : nx ≤ nx') : PST G' nx' pa K pl := by
  obtain ⟨h1, ⟨fP, h2, h3⟩, h4⟩ := h
  refine ⟨⟨h1.1, by omega⟩, ⟨fP, (hk pa h1.1 h1.2).trans h2, h3⟩, fun i hi => ?_⟩
  obtain ⟨q1, q2, q3, q4⟩ := h4 i hi
  exact ⟨hk.own q1 q2 q3, q2, by omega, q4⟩
theorem PST.le {G : RG} {nx pa K K' : Nat} {pl pl' : Nat → Nat × Mem} (h : PST G nx pa K pl) (hK : K' ≤ K) (e : ∀ i, i < K' → pl' i = pl i) : PST G nx pa K' pl' := by
  obtain ⟨h1, ⟨fP, h2, h3⟩, h4⟩ := h
  exact ⟨h1, ⟨fP, h2, fun i hi => by rw [e i hi]; exact h3 i (by omega)⟩, fun i hi => by rw [e i hi]; exact h4 i (by omega)⟩
theorem min8 {K : Nat} : (if min 8 K < 8 then min 8 K + 1 else 8) = min 8 (K + 1) := by split <;> omega
def pOK : RO → RM → Prop := fun r _ => r = rI 1
section Loops
variable {g : GL} {G : RG} {c0 : Int32} {μ v : Mem} {s b E P C O nx pa : Nat} {pl : Nat → Nat × Mem}
set_option maxHeartbeats 1000000 in
theorem law_undo (d : Nat) (hD : DG g) (hS : SG g) (hP1 : 1 ≤ P) (hs : s < 2) {o9 : RV} {kp : Int32} : ∀ h K (μ : Mem) (G : RG) (nx : Nat), K ≤ 52 → nx + 2200 * h < 2 ^ 27 → LM vc 0 535 μ G G → μ 12 0 3 = nI s → HIS c0 μ s E P C O h K pl → PST G nx pa K pl → Ev g (d + 11) m_law 220 [some (.inr (1, 90)), some (.inr (0, off 12 0)), some (o9), some (.inr (0, pa)), some (.inl (.int kp)), some (.inl (.int (nI h))), some (.inl (.int (nI K - 1))), none, none] [] (G, nx) (1830 * h) (77200 * h) pOK := by
  intro h
  induction h with
  | zero =>
    intro K μ G nx hK hnx hG h12 hH hPS
    refine ev_iload (i := 5) rfl d_law_220 ?_
    refine ev_if_le (tgt := 257) (by decide) d_law_222 (fun _ => ?_) (fun c => absurd (show nI 0 ≤ 0 by decide) c)
    refine ev_aload_n (k0 := 1) rfl d_law_257 ?_
    refine Ev.z9 (cv_V [] hG v_12 rfl lk_ProphecyShopLaw_409 (w_P_undoCount (d + 10) hG (T_undoCount hH)) rfl rfl d_law_258 (aft_ro ?_))
    refine ev_if_ne (tgt := 268) (by decide) d_law_261 (fun c => absurd rfl c) (fun _ => ?_)
    refine cw_iconst 1 d_law_264 rfl ?_
    refine ev_goto (tgt := 269) (by decide) d_law_265 ?_
    exact ev_ireturn (st := []) rfl rfl d_law_269 rfl
  | succ h ih =>
    intro K1 μ G nx hK hnx hG h12 hH hPS
    obtain ⟨K, rfl⟩ : ∃ K, K1 = K + 1 := ⟨K1 - 1, by have := hH.2.1; omega⟩
    obtain ⟨m9, e1, e2, e3, e4⟩ := T_undo hH hs
    obtain ⟨n, w, t, dd, hdd, hQ⟩ := e2
    obtain ⟨pa1, ⟨fP, f1, f2⟩, f3⟩ := id hPS
    obtain ⟨q1, q2, q3, q4⟩ := f3 K (by omega)
    rw [show nI (K + 1) - 1 = nI K from nI_sub (a := K + 1) (b := 1) (by omega)]
    refine ev_iload (i := 5) rfl d_law_220 ?_
    refine ev_if_le (tgt := 257) (by decide) d_law_222 (fun c => absurd c (show ¬ nI (h + 1) ≤ 0 from nI_ge (a := 0) (by omega) (by have := hH.1; omega))) (fun _ => ?_)
    refine cw_iincN 5 (-1) [some (.inr (1, 90)), some (.inr (0, off 12 0)), some (o9), some (.inr (0, pa)), some (.inl (.int kp)), some (.inl (.int (nI h))), some (.inl (.int (nI K))), none, none] d_law_225 rfl rfl rfl rfl (by rw [show nI (h + 1) + (-1) = nI h from (Int32.sub_eq_add_neg _ _).symm.trans (nI_sub (a := h + 1) (b := 1) (by omega))]; rfl) ?_
    refine ev_aload_n (k0 := 1) rfl d_law_228 ?_
    refine Ev.z9 (cv_V [] hG v_12 rfl lk_ProphecyShopLaw_415 (w_P_undo (d + 7) hG (e1)) rfl rfl d_law_229 (aft_rw (fun G1 hG1 => ?_)))
    refine ev_iload (i := 5) rfl d_law_232 ?_
    refine ev_icmp_ne (tgt := 249) (by decide) d_law_234 (fun c => absurd rfl c) (fun _ => ?_)
    have hK1 : KB nx G G1 := fun q a _ => hG1.2 q (Or.inr a)
    have hPS1 := hPS.kb hK1 (Nat.le_refl _)
    refine ev_aload_n (k0 := 1) rfl d_law_237 ?_
    refine ev_aload_n (k0 := 3) rfl d_law_238 ?_
    refine ev_iload (i := 6) rfl d_law_239 ?_
    refine ev_aald (M := (G1, nx)) (C := "ProphecyShopLaw$Own") rfl (show rdM g (G1, nx) (0, pa) = _ from (hK1 pa pa1.1 pa1.2).trans f1) (vp_in_nI (by omega) (by omega)) d_law_241 ?_
    rw [nI_clamp (by omega), f2 K (by omega)]
    refine cw_iconst 0 d_law_242 rfl ?_
    have q1 : LM (vo (pl K).1) (pl K).1 ((pl K).1 + 21) (pl K).2 G1 G1 := hK1.own q1 q2 q3
    refine Ev.room (mc := 1830 + 1830 * h) (ms := 77200 + 77200 * h) (cw_S [.inr (0, off 12 0), .inr (0, off 60 (pl K).1), .inl (.int 0)] lk_ProphecyShopLaw_398 (M_isAs (d + 2) hD hS hG1.refl q1 q2 q3 (by omega) hQ ((congrFun (congrFun e4 0) 3).trans h12) hP1 0) rfl rfl d_law_243 ⟨fun w9 M9 hP => ?_, fun E9 M9 hP => by obtain ⟨hv, -⟩ := hP; cases hv⟩) (by omega) (by omega)
    obtain ⟨hw9, μ2, p1, p2, p3, p4, p5⟩ := hP
    cases hw9
    obtain ⟨G2, nx2⟩ := M9
    replace p4 : nx ≤ nx2 := p4
    replace p5 : nx2 ≤ nx + 2100 := p5
    refine ev_if_ne (tgt := 251) (by decide) d_law_246 (fun _ => ?_) (fun c => absurd c (by decide))
    refine cw_iincN 6 (-1) [some (.inr (1, 90)), some (.inr (0, off 12 0)), some (o9), some (.inr (0, pa)), some (.inl (.int kp)), some (.inl (.int (nI h))), some (.inl (.int (nI K - 1))), none, none] d_law_251 rfl rfl rfl rfl (by rw [show nI K - 1 = nI K + (-1) from Int32.sub_eq_add_neg _ _]; rfl) ?_
    refine ev_goto (tgt := 220) (by decide) d_law_254 ?_
    exact ih K μ2 G2 nx2 (by omega) (by omega) p1 (p2.m12.trans ((congrFun (congrFun e4 0) 3).trans h12)) (p2.his e3) ((hPS1.kb p3 p4).le (by omega) (fun _ _ => rfl))
set_option maxHeartbeats 2000000 in
theorem law_loop (d : Nat) (hD : DG g) (hS : SG g) (hA : AR g) (hE1 : 1 ≤ E) (hP1 : 1 ≤ P) : ∀ j tt K (μ : Mem) (G : RG) (nx b : Nat) (v : Mem) (pl : Nat → Nat × Mem) (n w t dd : Nat), tt + j = 50 → K ≤ tt → nx + 2200 * j < 2 ^ 26 → LM vc 0 535 μ G G → LM (vo b) b (b + 21) v G G → (535 ≤ b ∧ b + 21 ≤ nx ∧ (pa < b ∨ b + 21 ≤ pa)) → μ 12 0 3 = nI s → QS c0 μ 0 s b v E P C O n w t dd → dd ≤ 60 * tt → HIS c0 μ s E P C O (min 8 K) K pl → PST G nx pa K pl → Ev g (d + 11) m_law 39 [some (.inr (1, 90)), some (.inr (0, off 12 0)), some (.inr (0, off 60 b)), some (.inr (0, pa)), some (.inl (.int (nI K))), some (.inl (.int (nI tt))), none, none, none] [] (G, nx) (1900 * j + 16500) (78200 * j + 694900) pOK := by
  intro j
  induction j with
  | zero =>
    intro tt K μ G nx b v pl n w t dd htt hKt hnx hG hO hb h12 hQ hdd hH hPS
    obtain rfl : tt = 50 := by omega
    have hs2 := hQ.2.1.1
    obtain ⟨-, -, -, -, -, a5, -⟩ := hQ.2.2.1.1
    rw [ro_0 (by omega)] at a5
    refine ev_iload (i := 5) rfl d_law_39 ?_
    refine cw_bipush 50 d_law_41 rfl ?_
    refine ev_icmp_ge (tgt := 189) (by decide) d_law_43 (fun _ => ?_) (fun c => absurd (show nI 50 ≤ nI 50 by decide) c)
    refine ev_aload_n (k0 := 1) rfl d_law_189 ?_
    refine ev_aload_n (k0 := 2) rfl d_law_190 ?_
    refine ev_aload_n (k0 := 2) rfl d_law_191 ?_
    refine cv_getN (.inl (.int (v 60 b 5))) hO vo_0 gn_151 rfl rfl d_law_192 ?_
    rw [a5]
    refine cw_iconst 1 d_law_195 rfl ?_
    refine ev_iadd d_law_196 ?_
    refine Ev.room (mc := 1830 + 14640) (ms := 77200 + 617600) (cw_S [.inr (0, off 12 0), .inr (0, off 60 b), .inl (.int (nI dd + 1))] lk_ProphecyShopLaw_398 (M_isAs (d + 2) hD hS hG hO hb.1 hb.2.1 (by omega) hQ h12 hP1 (nI dd + 1)) rfl rfl d_law_197 ⟨fun w9 M9 hP => ?_, fun E9 M9 hP => by obtain ⟨hv, -⟩ := hP; cases hv⟩) (by omega) (by omega)
    obtain ⟨hw9, μ2, p1, p2, p3, p4, p5⟩ := hP
    cases hw9
    obtain ⟨G2, nx2⟩ := M9
    replace p4 : nx ≤ nx2 := p4
    replace p5 : nx2 ≤ nx + 2100 := p5
    refine ev_if_ne (tgt := 205) (by decide) d_law_200 (fun _ => ?_) (fun c => absurd c (by decide))
    refine cw_bipush 8 d_law_205 rfl ?_
    refine ev_iload (i := 4) rfl d_law_207 ?_
    refine ev_mmin (Nat.le_of_ble_eq_true rfl) mm_412 d_law_209 ?_
    rw [show (if nI K < (8 : Int32) then nI K else 8) = nI (min 8 K) by
      by_cases q : K < 8
      · rw [if_pos (show nI K < (8 : Int32) from nI_lt (b := 8) q (by omega)), Nat.min_eq_right (by omega)]
      · rw [if_neg (show ¬ nI K < (8 : Int32) from nI_nlt (a := K) (b := 8) (by omega) (by omega)), Nat.min_eq_left (by omega)]; rfl]
    refine cw_istoreN 5 (nI (min 8 K)) rfl [some (.inr (1, 90)), some (.inr (0, off 12 0)), some (.inr (0, off 60 b)), some (.inr (0, pa)), some (.inl (.int (nI K))), some (.inl (.int (nI (min 8 K)))), none, none, none] d_law_212 rfl rfl rfl ?_
    refine ev_iload (i := 4) rfl d_law_214 ?_
    refine cw_iconst 1 d_law_216 rfl ?_
    refine ev_isub d_law_217 ?_
    refine cw_istoreN 6 (nI K - 1) rfl [some (.inr (1, 90)), some (.inr (0, off 12 0)), some (.inr (0, off 60 b)), some (.inr (0, pa)), some (.inl (.int (nI K))), some (.inl (.int (nI (min 8 K)))), some (.inl (.int (nI K - 1))), none, none] d_law_218 rfl rfl rfl ?_
    refine Ev.room (law_undo d hD hS hP1 hs2 (min 8 K) K μ2 G2 nx2 (by omega) (by omega) p1 (p2.m12.trans h12) (p2.his hH) (hPS.kb p3 p4)) (by omega) (by omega)
  | succ j ih =>
    intro tt K μ G nx b v pl n w t dd htt hKt hnx hG hO hb h12 hQ hdd hH hPS
    obtain ⟨hn, hw, ht, -, -, a5, -, -, a10, -⟩ := hQ.2.2.1.1
    rw [ro_0 (by omega)] at a5 a10
    refine ev_iload (i := 5) rfl d_law_39 ?_
    refine cw_bipush 50 d_law_41 rfl ?_
    refine ev_icmp_ge (tgt := 189) (by decide) d_law_43 (fun c => absurd (show nI 50 ≤ nI tt from c) (nI_ge (by omega) (by omega))) (fun _ => ?_)
    refine cw_bipush 30 d_law_46 rfl ?_
    refine cw_iconst 4 d_law_48 rfl ?_
    refine ev_iload (i := 5) rfl d_law_49 ?_
    refine ev_imul d_law_51 ?_
    rw [show (4 : Int32) * nI tt = nI (4 * tt) from pk_mul 4 tt]
    refine ev_iadd d_law_52 ?_
    rw [show (30 : Int32) + nI (4 * tt) = nI (30 + (4 * tt)) from nI_add 30 (4 * tt)]
    refine cw_istoreN 6 (nI (30 + (4 * tt))) rfl [some (.inr (1, 90)), some (.inr (0, off 12 0)), some (.inr (0, off 60 b)), some (.inr (0, pa)), some (.inl (.int (nI K))), some (.inl (.int (nI tt))), some (.inl (.int (nI (30 + (4 * tt))))), none, none] d_law_53 rfl rfl rfl ?_
    refine ev_aload_n (k0 := 1) rfl d_law_55 ?_
    refine ev_aload_n (k0 := 2) rfl d_law_56 ?_
    refine ev_aload_n (k0 := 0) rfl d_law_57 ?_
    refine ev_iload (i := 6) rfl d_law_58 ?_
    refine cw_iconst 3 d_law_60 rfl ?_
    refine ev_iadd d_law_61 ?_
    rw [show nI (30 + (4 * tt)) + 3 = nI ((30 + (4 * tt)) + 3) from nI_add (30 + (4 * tt)) 3]
    refine ev_aload_n (k0 := 2) rfl d_law_62 ?_
    refine cv_getN (.inl (.int (v 60 b 5))) hO vo_0 gn_151 rfl rfl d_law_63 ?_
    rw [a5]
    refine cw_iconst 2 d_law_66 rfl ?_
    refine ev_iadd d_law_67 ?_
    rw [show nI dd + 2 = nI (dd + 2) from nI_add dd 2]
    refine Ev.z9 (cw_S [.inr (1, 90), .inl (.int (nI (30 + 4 * tt + 3))), .inl (.int (nI (dd + 2)))] lk_ProphecyShopLaw_325 (M_pick (d + 9) hA (by omega) (by omega) (by omega)) rfl rfl d_law_68 ⟨fun w9 M9 hP => ?_, fun E9 M9 hP => by obtain ⟨-, j9, -, hv⟩ := hP; cases hv⟩)
    obtain ⟨hM9, dy, gdy, hv⟩ := hP
    subst hM9
    cases hv
    refine cw_iconst 1 d_law_71 rfl ?_
    refine ev_isub d_law_72 ?_
    refine Ev.room (mc := 1830 + (1900 * j + 16570)) (ms := 77200 + (78200 * j + 695900)) (cw_S [.inr (0, off 12 0), .inr (0, off 60 b), .inl (.int (nI dy - 1))] lk_ProphecyShopLaw_398 (M_isAs (d + 2) hD hS hG hO hb.1 hb.2.1 (by omega) hQ h12 hP1 (nI dy - 1)) rfl rfl d_law_73 ⟨fun w9 M9 hP => ?_, fun E9 M9 hP => by obtain ⟨hv, -⟩ := hP; cases hv⟩) (by omega) (by omega)
    obtain ⟨hw9, μ2, p1, p2, p3, p4, p5⟩ := hP
    cases hw9
    obtain ⟨G2, nx2⟩ := M9
    replace p4 : nx ≤ nx2 := p4
    replace p5 : nx2 ≤ nx + 2100 := p5
    refine ev_if_eq (tgt := 122) (by decide) d_law_76 (fun c => absurd c (by decide)) (fun _ => ?_)
    have K124 : ∀ (μ3 : Mem) (G3 : RG) (nx3 : Nat), LM vc 0 535 μ3 G3 G3 → FrL μ μ3 → KB nx G G3 → nx ≤ nx3 → nx3 ≤ nx + 2121 → Ev g (d + 11) m_law 124 [some (.inr (1, 90)), some (.inr (0, off 12 0)), some (.inr (0, off 60 b)), some (.inr (0, pa)), some (.inl (.int (nI K))), some (.inl (.int (nI tt))), some (.inl (.int (nI (30 + 4 * tt)))), none, none] [] (G3, nx3) (1900 * j + 16530) (78200 * j + 695400) pOK := by
      intro μ3 G3 nx3 hG3 hL3 hK3 hn3 hx3
      have hO3 : LM (vo b) b (b + 21) v G3 G3 := hK3.own hO hb.1 hb.2.1
      have hQ3 := hL3.qs hQ
      obtain ⟨⟨c10, -⟩, ⟨c12, hw9⟩, ⟨c11, ht9⟩, hdn⟩ := own_args hQ3
      refine ev_aload_n (k0 := 2) rfl d_law_124 ?_
      refine Ev.room (mc := 21 + (1900 * j + 16500)) (ms := 460 + (78200 * j + 694900)) (cv_V (d := d + 10) [] hO3 vo_0 rfl lk_ProphecyShopLaw_302 (M_Own_copy (d + 9) hO3 (by omega) c10 hn c12 hw9 c11 ht9 hdn) rfl rfl d_law_125 ⟨fun w9 M9 hP => ?_, fun E9 M9 hP => by obtain ⟨hv, -⟩ := hP; cases hv⟩) (by omega) (by omega)
      obtain ⟨hw9, r1, u, r2, r3⟩ := hP
      cases hw9
      obtain ⟨G4, nx4⟩ := M9
      replace r1 : nx4 = nx3 + 21 := r1
      subst r1
      replace r2 : LM (vo nx3) nx3 (nx3 + 21) u G3 G4 := r2
      have hQ4 := hQ3.copy r3
      have hG4 : LM vc 0 535 μ3 G4 G4 := own_vc hG3 r2 (by omega)
      have hK4 : KB nx3 G3 G4 := fun q _ h => r2.2 q (Or.inl h)
      refine cw_astoreN 7 [some (.inr (1, 90)), some (.inr (0, off 12 0)), some (.inr (0, off 60 b)), some (.inr (0, pa)), some (.inl (.int (nI K))), some (.inl (.int (nI tt))), some (.inl (.int (nI (30 + 4 * tt)))), some (.inr (0, off 60 nx3)), none] d_law_128 rfl rfl rfl ?_
      refine ev_aload_n (k0 := 1) rfl d_law_130 ?_
      refine ev_aload (i := 7) rfl d_law_131 ?_
      refine ev_aload_n (k0 := 0) rfl d_law_133 ?_
      refine ev_iload (i := 6) rfl d_law_134 ?_
      have hps : ∃ ps : Nat → Nat × Mem, ps K = (b, v) ∧ ∀ i, i < K → ps i = pl i := ⟨fun i => if i = K then (b, v) else pl i, if_pos rfl, fun i hi => if_neg (by omega)⟩
      obtain ⟨ps, hps, hpl⟩ := hps
      have hH3 : HIS c0 μ3 s E P C O (min 8 K) K ps := (hL3.his hH).pls hpl
      refine Ev.z9 (cw_S [.inr (0, off 12 0), .inr (0, off 60 nx3), .inr (1, 90), .inl (.int (nI (30 + 4 * tt)))] lk_ProphecyShopLaw_405 (M_acts (d + 2) hA hG4 r2.refl (by omega) hH3 hQ3 hps hQ4 (by omega) hE1 hP1 (by omega)) rfl rfl d_law_136 ⟨fun w9 M9 hP => ?_, fun E9 M9 hP => by obtain ⟨-, -, ⟨hv, -⟩ | ⟨hv, -⟩⟩ := hP <;> cases hv⟩)
      obtain ⟨G5, nx5⟩ := M9
      obtain ⟨s1, s2, s3⟩ := hP
      replace s1 : nx5 = nx3 + 21 := s1
      subst s1
      replace s2 : OF nx3 G4 G5 := s2
      have hK5 : KB nx3 G3 G5 := (fun q a c => (s2 q a (Or.inl c)).trans (hK4 q a c))
      rcases s3 with ⟨hv, hGe⟩ | ⟨hv, μ6, u6, n6, w6, t6, dd6, z1, z2, z3, z4, z5, z6⟩
      · cases hv
        replace hGe : G5 = G4 := hGe
        subst hGe
        refine cw_istoreN 8 ((-1)) rfl [some (.inr (1, 90)), some (.inr (0, off 12 0)), some (.inr (0, off 60 b)), some (.inr (0, pa)), some (.inl (.int (nI K))), some (.inl (.int (nI tt))), some (.inl (.int (nI (30 + 4 * tt)))), some (.inr (0, off 60 nx3)), some (.inl (.int ((-1))))] d_law_139 rfl rfl rfl ?_
        refine ev_iload (i := 8) rfl d_law_141 ?_
        refine ev_if_ne (tgt := 148) (by decide) d_law_143 (fun _ => ?_) (fun c => absurd c (by decide))
        refine ev_iload (i := 8) rfl d_law_148 ?_
        refine ev_if_ge (tgt := 156) (by decide) d_law_150 (fun c => absurd c (by decide)) (fun _ => ?_)
        refine ev_goto (tgt := 183) (by decide) d_law_153 ?_
        refine cw_iincN 5 1 [some (.inr (1, 90)), some (.inr (0, off 12 0)), some (.inr (0, off 60 b)), some (.inr (0, pa)), some (.inl (.int (nI K))), some (.inl (.int (nI (tt + 1)))), some (.inl (.int (nI (30 + 4 * tt)))), some (.inr (0, off 60 nx3)), some (.inl (.int ((-1))))] d_law_183 rfl rfl rfl rfl (by rw [show nI (tt + 1) = nI tt + 1 from (nI_add _ _).symm]; rfl) ?_
        refine ev_goto (tgt := 39) (by decide) d_law_186 ?_
        refine Ev.sub (ls' := [some (.inr (1, 90)), some (.inr (0, off 12 0)), some (.inr (0, off 60 b)), some (.inr (0, pa)), some (.inl (.int (nI K))), some (.inl (.int (nI (tt + 1)))), none, none, none]) (LSb.s (LSb.s (LSb.s (LSb.s (LSb.s (LSb.s (LSb.n (LSb.n (LSb.n LSb.z))))))))) ?_
        exact ih (tt + 1) K μ3 G5 (nx3 + 21) b v pl n w t dd (by omega) (by omega) (by omega) hG4 (hK5.own hO3 hb.1 (by omega)) ⟨hb.1, by omega, hb.2.2⟩ (hL3.m12.trans h12) hQ3 (by omega) (hL3.his hH) ((hPS.kb hK3 hn3).kb hK5 (by omega))
      · cases hv
        refine cw_istoreN 8 1 rfl [some (.inr (1, 90)), some (.inr (0, off 12 0)), some (.inr (0, off 60 b)), some (.inr (0, pa)), some (.inl (.int (nI K))), some (.inl (.int (nI tt))), some (.inl (.int (nI (30 + 4 * tt)))), some (.inr (0, off 60 nx3)), some (.inl (.int 1))] d_law_139 rfl rfl rfl ?_
        refine ev_iload (i := 8) rfl d_law_141 ?_
        refine ev_if_ne (tgt := 148) (by decide) d_law_143 (fun _ => ?_) (fun c => absurd c (by decide))
        refine ev_iload (i := 8) rfl d_law_148 ?_
        refine ev_if_ge (tgt := 156) (by decide) d_law_150 (fun _ => ?_) (fun c => absurd (show (0 : Int32) ≤ 1 by decide) c)
        refine ev_aload_n (k0 := 3) rfl d_law_156 ?_
        refine ev_iload (i := 4) rfl d_law_157 ?_
        refine ev_aload_n (k0 := 2) rfl d_law_159 ?_
        have hpn : pa < nx3 := by have := hPS.1.2; omega
        have hPS5 := (hPS.kb hK3 hn3).kb hK5 (show nx3 ≤ nx3 + 21 by omega)
        obtain ⟨pa1, ⟨fP, f1, f2⟩, f3⟩ := hPS5
        have hO5 : LM (vo b) b (b + 21) v G5 G5 := hK5.own hO3 hb.1 (by omega)
        have hob : G5 (off 60 b) = some (cel v 60 b) := hO5.1 60 b vo_0
        refine ev_aast (M := (G5, 0)) (ci := 13) (ei := 8) (r9 := (RX12, TX12, 35)) rfl rfl (by decide) f1 (show rdM g (G5, nx3 + 21) (0, off 60 b) = _ from hob) (vp_in_nI (show K < 52 by omega) (by omega)) d_law_160 ?_
        rw [nI_clamp (by omega)]
        generalize hG6 : wrG G5 pa _ = G6
        have hne : ∀ q, q ≠ pa → G6 q = G5 q := fun q hq => by rw [← hG6, wrG_N hq]
        have hpa : G6 pa = some (true, 8, 52, updF fP K (.inr (0, off 60 b))) := by rw [← hG6]; exact wrG_S
        have hOw : ∀ b9 v9, LM (vo b9) b9 (b9 + 21) v9 G5 G5 → (pa < b9 ∨ b9 + 21 ≤ pa) → LM (vo b9) b9 (b9 + 21) v9 G6 G6 := fun b9 v9 h h2 => ⟨fun K j hv => (hne _ (by have := okO.2 K j hv; omega)).trans (h.1 K j hv), fun _ _ => rfl⟩
        have hG6v : LM vc 0 535 μ6 G6 G6 := ⟨fun K j hv => (hne _ (by have := (okC.2 K j hv).2; omega)).trans (z1.1 K j hv), fun _ _ => rfl⟩
        refine cw_iincN 4 1 [some (.inr (1, 90)), some (.inr (0, off 12 0)), some (.inr (0, off 60 b)), some (.inr (0, pa)), some (.inl (.int (nI (K + 1)))), some (.inl (.int (nI tt))), some (.inl (.int (nI (30 + 4 * tt)))), some (.inr (0, off 60 nx3)), some (.inl (.int 1))] d_law_161 rfl rfl rfl rfl (by rw [show nI (K + 1) = nI K + 1 from (nI_add _ _).symm]; rfl) ?_
        refine ev_aload (i := 7) rfl d_law_164 ?_
        refine cw_astoreN_n 2 [some (.inr (1, 90)), some (.inr (0, off 12 0)), some (.inr (0, off 60 nx3)), some (.inr (0, pa)), some (.inl (.int (nI (K + 1)))), some (.inl (.int (nI tt))), some (.inl (.int (nI (30 + 4 * tt)))), some (.inr (0, off 60 nx3)), some (.inl (.int 1))] d_law_166 rfl rfl rfl ?_
        refine ev_aload_n (k0 := 1) rfl d_law_167 ?_
        refine Ev.z9 (cv_V [] hG6v v_12 rfl lk_ProphecyShopLaw_409 (w_P_undoCount (d + 10) hG6v (T_undoCount z4)) rfl rfl d_law_168 (aft_ro ?_))
        rw [min8]
        refine cw_bipush 8 d_law_171 rfl ?_
        refine ev_iload (i := 4) rfl d_law_173 ?_
        refine ev_mmin (Nat.le_of_ble_eq_true rfl) mm_412 d_law_175 ?_
        rw [show (if nI (K + 1) < (8 : Int32) then nI (K + 1) else 8) = nI (min 8 (K + 1)) by
          by_cases q : K + 1 < 8
          · rw [if_pos (show nI (K + 1) < (8 : Int32) from nI_lt (b := 8) q (by omega)), Nat.min_eq_right (by omega)]
          · rw [if_neg (show ¬ nI (K + 1) < (8 : Int32) from nI_nlt (a := K + 1) (b := 8) (by omega) (by omega)), Nat.min_eq_left (by omega)]; rfl]
        refine ev_icmp_eq (tgt := 183) (by decide) d_law_178 (fun _ => ?_) (fun c => absurd rfl c)
        refine cw_iincN 5 1 [some (.inr (1, 90)), some (.inr (0, off 12 0)), some (.inr (0, off 60 nx3)), some (.inr (0, pa)), some (.inl (.int (nI (K + 1)))), some (.inl (.int (nI (tt + 1)))), some (.inl (.int (nI (30 + 4 * tt)))), some (.inr (0, off 60 nx3)), some (.inl (.int 1))] d_law_183 rfl rfl rfl rfl (by rw [show nI (tt + 1) = nI tt + 1 from (nI_add _ _).symm]; rfl) ?_
        refine ev_goto (tgt := 39) (by decide) d_law_186 ?_
        refine Ev.sub (ls' := [some (.inr (1, 90)), some (.inr (0, off 12 0)), some (.inr (0, off 60 nx3)), some (.inr (0, pa)), some (.inl (.int (nI (K + 1)))), some (.inl (.int (nI (tt + 1)))), none, none, none]) (LSb.s (LSb.s (LSb.s (LSb.s (LSb.s (LSb.s (LSb.n (LSb.n (LSb.n LSb.z))))))))) ?_
        refine ih (tt + 1) (K + 1) μ6 G6 (nx3 + 21) nx3 u6 ps n6 w6 t6 dd6 (by omega) (by omega) (by omega) hG6v (hOw _ _ z2 (by omega)) ⟨by omega, by omega, Or.inl (by omega)⟩ ((congrFun (congrFun z5 0) 3).trans (hL3.m12.trans h12)) z3 (by omega) (by rw [← min8]; exact z4) ⟨⟨pa1.1, by omega⟩, ⟨_, hpa, fun i hi => ?_⟩, fun i hi => ?_⟩
        · unfold updF
          by_cases e : i = K
          · rw [if_pos e, e, hps]
          · rw [if_neg e, hpl i (by omega)]
            exact f2 i (by omega)
        · by_cases e : i = K
          · rw [e, hps]
            exact ⟨hOw _ _ hO5 hb.2.2, hb.1, by show b + 21 ≤ _; omega, hb.2.2⟩
          · rw [hpl i (by omega)]
            obtain ⟨g1, g2, g3, g4⟩ := f3 i (by omega)
            exact ⟨hOw _ _ g1 g4, g2, g3, g4⟩
    have hO2 : LM (vo b) b (b + 21) v G2 G2 := p3.own hO hb.1 hb.2.1
    refine ev_iload (i := 5) rfl d_law_79 ?_
    refine cw_bipush 8 d_law_81 rfl ?_
    refine ev_irem (by decide) d_law_83 ?_
    rw [show nI tt - nI tt / 8 * 8 = nI (tt % 8) from rem_nI (d := 8) (by omega) (by omega) (by omega)]
    refine cw_bipush 7 d_law_84 rfl ?_
    refine ev_icmp_ne (tgt := 124) (by decide) d_law_86 (fun _ => Ev.room (K124 μ2 G2 nx2 p1 p2 p3 p4 (by omega)) (by omega) (by omega)) (fun _ => ?_)
    refine ev_aload_n (k0 := 1) rfl d_law_89 ?_
    refine ev_aload_n (k0 := 2) rfl d_law_90 ?_
    refine ev_aload_n (k0 := 0) rfl d_law_91 ?_
    refine ev_iload (i := 6) rfl d_law_92 ?_
    refine cw_iconst 3 d_law_94 rfl ?_
    refine ev_iadd d_law_95 ?_
    rw [show nI (30 + 4 * tt) + 3 = nI ((30 + 4 * tt) + 3) from nI_add (30 + 4 * tt) 3]
    refine ev_aload_n (k0 := 2) rfl d_law_96 ?_
    refine cv_getN (.inl (.int (v 60 b 10))) hO2 vo_0 gn_190 rfl rfl d_law_97 ?_
    rw [a10]
    refine cw_iconst 1 d_law_100 rfl ?_
    refine ev_iadd d_law_101 ?_
    rw [show nI n + 1 = nI (n + 1) from nI_add n 1]
    refine Ev.z9 (cw_S [.inr (1, 90), .inl (.int (nI (30 + 4 * tt + 3))), .inl (.int (nI (n + 1)))] lk_ProphecyShopLaw_325 (M_pick (d + 9) hA (by omega) (by omega) (by omega)) rfl rfl d_law_102 ⟨fun w9 M9 hP => ?_, fun E9 M9 hP => by obtain ⟨-, j9, -, hv⟩ := hP; cases hv⟩)
    obtain ⟨hM9, kk, gkk, hv⟩ := hP
    subst hM9
    cases hv
    refine ev_aload_n (k0 := 0) rfl d_law_105 ?_
    refine ev_iload (i := 6) rfl d_law_106 ?_
    refine cw_iconst 3 d_law_108 rfl ?_
    refine ev_iadd d_law_109 ?_
    rw [show nI (30 + 4 * tt) + 3 = nI ((30 + 4 * tt) + 3) from nI_add (30 + 4 * tt) 3]
    refine cw_sipush 301 d_law_110 rfl ?_
    refine Ev.z9 (cw_S [.inr (1, 90), .inl (.int (nI (30 + 4 * tt + 3))), .inl (.int (nI 301))] lk_ProphecyShopLaw_325 (M_pick (d + 9) hA (by omega) (by omega) (by omega)) rfl rfl d_law_113 ⟨fun w9 M9 hP => ?_, fun E9 M9 hP => by obtain ⟨-, j9, -, hv⟩ := hP; cases hv⟩)
    obtain ⟨hM9, df, gdf, hv⟩ := hP
    subst hM9
    cases hv
    refine Ev.room (mc := 21 + (1900 * j + 16530)) (ms := 460 + (78200 * j + 695400)) (cw_S [.inr (0, off 12 0), .inr (0, off 60 b), .inl (.int (nI kk)), .inl (.int (nI df))] lk_ProphecyShopLaw_401 (M_isForetold (d + 2) p1 hO2 hb.1 (by omega) (p2.qs hQ) (by omega) (by omega) (by omega)) rfl rfl d_law_116 ⟨fun w9 M9 hP => ?_, fun E9 M9 hP => by obtain ⟨hv, -⟩ := hP; cases hv⟩) (by omega) (by omega)
    obtain ⟨hw9, μ3, r1, r2, r3, r4, r5⟩ := hP
    cases hw9
    obtain ⟨G3, nx3⟩ := M9
    replace r4 : nx2 ≤ nx3 := r4
    replace r5 : nx3 ≤ nx2 + 21 := r5
    refine ev_if_ne (tgt := 124) (by decide) d_law_119 (fun _ => ?_) (fun c => absurd c (by decide))
    exact K124 μ3 G3 nx3 r1 (p2.tr r2) (p3.tr r3 p4) (by omega) (by omega)
end Loops

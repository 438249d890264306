/-! begins: the shop is drawn, and its text is built. -/
theorem wE_ok : okT wE := by unfold wE okT; decide
theorem wP_ok : okT wP := by unfold wP okT; decide
theorem wC_ok : okT wC := by unfold wC okT; decide
theorem wO_ok : okT wO := by unfold wO okT; decide
theorem wS_ok : okT wS := by unfold wS okT; decide
theorem okT.lt {l : List Nat} (h : okT l) (i : Nat) (hi : i < l.length) : l.getD i 0 < 128 := by have := (h.at hi).2; omega
section New
variable {g : GL} {d : Nat} {mi : MI} {pc : Nat} {ls : List (Option RV)} {st : List RV} {mc ms : Nat} {Post : RO → RM → Prop} {B n0 : Nat} {l : List Nat}
/-- a builder out of a far constant -/
theorem ev_sbNewW {ik ii : Nat} {G : RG} {r v : Nat × Nat} (hB : 8 ≤ B ∧ B ≤ 1000) (hcl : Cond.classLink mi.1.cls ik "java/lang/StringBuilder" ∈ lw_good) (lk : LI mi.1.cls ii 1 m_StringBuilder_init_a7421) (hs : SR g (G, n0) r v l) (hl : l.length ≤ B) (hl2 : l.length + 16 ≤ 2 * B) (hst : Nat.ble st.length 2 = true) (hd1 : decode mi.2.1 pc = .ok (.new ik, 3)) (hd2 : decode mi.2.1 (pc + 3) = .ok (.dup, 1))
    (hld : ∀ M mc9 ms9, Ev g (d + 8) mi (pc + 3 + 1 + 3) ls (.inr r :: .inr (0, n0) :: .inr (0, n0) :: st) M mc9 ms9 Post → Ev g (d + 8) mi (pc + 3 + 1) ls (.inr (0, n0) :: .inr (0, n0) :: st) M mc9 ms9 Post) (hd3 : decode mi.2.1 (pc + 3 + 1 + 3) = .ok (.invokespecial ii, 3)) (k : ∀ M', BI B G n0 n0 3 l M' → Ev g (d + 8) mi (pc + 3 + 1 + 3 + 3) ls (.inr (0, n0) :: st) M' mc ms Post) : Ev g (d + 8) mi pc ls st (G, n0) (2 + mc + 1) (l.length + 16 + 2 * B + ms + 4) Post := by
  refine ev_new (M := (G, n0)) coC_1 hcl in_StringBuilder ii_StringBuilder hd1 ?_
  refine ev_dup rfl hd2 ?_
  refine hld _ _ _ ?_
  refine ev_invI (d := d + 7) (vs := [.inr r]) lk (M_sbInitS (nx := n0 + 1) d hB wrG_S rfl (by omega) (hs.keep (by omega) (fun q q1 _ => wrG_N (by omega))) hl hl2) rfl (by have := Nat.le_of_ble_eq_true hst; show st.length + 1 ≤ 4; omega) hd3 ⟨fun w M' hP => ?_, fun E M' hP => ?_⟩
  · obtain ⟨hw, a', cap', p1, p2, p3, p4⟩ := hP
    cases hw
    exact k M' ⟨a', cap', p1, Nat.le_refl _, ⟨by omega, by omega⟩, fun q hq => (p4 q (by omega) (by omega)).trans (wrG_N (by omega))⟩
  · obtain ⟨hw, -⟩ := hP
    cases hw
end New
/-- the class, Own and the builder -/
def BS (G : RG) (nx n0 b bb : Nat) (μ v : Mem) (l : List Nat) : Prop := LM vc 0 535 μ G G ∧ LM (vo b) b (b + 21) v G G ∧ (535 ≤ b ∧ b + 21 ≤ n0) ∧ BI 400 G n0 n0 bb l (G, nx)
theorem BS.app {G G' : RG} {nx nx' n0 b bb bb' : Nat} {μ v : Mem} {l l' : List Nat} (h : BS G nx n0 b bb μ v l) (h' : BI 400 G n0 n0 bb' l' (G', nx')) : BS G' nx' n0 b bb' μ v l' := by
  obtain ⟨h1, h2, h3, h4⟩ := h
  refine ⟨BI.lm h' (by omega) h1, ?_, h3, ?_⟩
  · obtain ⟨a, cap, -, -, -, q⟩ := h'
    exact KB.own (nx := n0) (fun z _ hz => q z hz) h2 h3.1 h3.2
  · obtain ⟨a, cap, q1, q2, q3, -⟩ := h'
    exact ⟨a, cap, q1, q2, q3, fun _ _ => rfl⟩
theorem BS.le {G : RG} {nx n0 b bb bb' : Nat} {μ v : Mem} {l : List Nat} (h : BS G nx n0 b bb μ v l) (e : bb ≤ bb') : BS G nx n0 b bb' μ v l := ⟨h.1, h.2.1, h.2.2.1, h.2.2.2.le e⟩
theorem BS.at {G : RG} {nx n0 b bb : Nat} {μ v : Mem} {l l' : List Nat} (h : BS G nx n0 b bb μ v l) (e : l' = l) : BS G nx n0 b bb μ v l' := by subst e; exact h
theorem BS.put {G G' : RG} {nx n0 b bb : Nat} {μ v v' : Mem} {l : List Nat} (h : BS G nx n0 b bb μ v l) (hO : LM (vo b) b (b + 21) v' G G') : BS G' nx n0 b bb μ v' l := by
  obtain ⟨h1, h2, h3, h4⟩ := h
  refine ⟨own_vc h1 hO h3.1, LM.refl hO, h3, ?_⟩
  obtain ⟨a, cap, q1, q2, q3, q4⟩ := h4
  exact ⟨a, cap, q1.more (Nat.le_refl _) (hO.2 _ (Or.inr (by omega))) (hO.2 _ (Or.inr (by omega))), q2, q3, fun _ _ => rfl⟩
section Begin
variable {g : GL} {n0 b bb E P C O : Nat} {μ v : Mem} {X : List Nat} {Post : RO → RM → Prop} {mc ms : Nat}
theorem beg_ev (d : Nat) (hS : SG g) (hX : X.length ≤ 200) (hE : E ≤ 6) (hf : v 60 b 6 = nI E) (K : ∀ G nx, BS G nx n0 b (bb + 9 * E) μ v (tnA X wE 101 E) → Ev g (d + 10) m_PL_begins 221 [some (.inr (0, off 12 0)), some (.inr (0, off 60 b)), some (.inr (1, 90)), some (.inr (0, n0)), some (.inl (.int (nI E)))] [] (G, nx) mc ms Post) : ∀ j k G nx, k + j = E → BS G nx n0 b (bb + 9 * k) μ v (tnA X wE 101 k) → Ev g (d + 10) m_PL_begins 183 [some (.inr (0, off 12 0)), some (.inr (0, off 60 b)), some (.inr (1, 90)), some (.inr (0, n0)), some (.inl (.int (nI k)))] [] (G, nx) (9 * j + mc) (2472 * j + ms) Post := by
  intro j
  induction j with
  | zero =>
    intro k G nx hk hB
    obtain rfl : k = E := by omega
    refine ev_iload (i := 4) rfl d_PL_begins_183 ?_
    refine ev_aload_n (k0 := 1) rfl d_PL_begins_185 ?_
    refine cv_getN (.inl (.int (v 60 b 6))) hB.2.1 vo_0 gn_165 rfl rfl d_PL_begins_186 ?_
    rw [hf]
    refine ev_icmp_ge (tgt := 221) (by decide) d_PL_begins_189 (fun _ => ?_) (fun c => absurd (nI_le (Nat.le_refl _) (by omega)) c)
    exact Ev.room (K G nx hB) (by omega) (by omega)
  | succ j ih =>
    intro k G nx hk hB
    have hlen := tnA_len (X := X) (w := wE) (p := 101) k
    have hw6 : wE.length = 6 := rfl
    rw [hw6] at hlen
    refine ev_iload (i := 4) rfl d_PL_begins_183 ?_
    refine ev_aload_n (k0 := 1) rfl d_PL_begins_185 ?_
    refine cv_getN (.inl (.int (v 60 b 6))) hB.2.1 vo_0 gn_165 rfl rfl d_PL_begins_186 ?_
    rw [hf]
    refine ev_icmp_ge (tgt := 221) (by decide) d_PL_begins_189 (fun c => absurd c (nI_ge (by omega) (by omega))) (fun _ => ?_)
    refine ev_aload_n (k0 := 3) rfl d_PL_begins_192 ?_
    refine ev_ldcwS (i := 23) (tx := "event ") (by decide) d_PL_begins_193 ?_
    refine Ev.room (mc := 1 + (8 + (9 * j + mc))) (ms := 2 * 400 + (1672 + (2472 * j + ms))) (ev_appS (d := d + 5) (k9 := 0) hB.2.2.2 ⟨Nat.le_refl _, Nat.le_refl _⟩ (fun _ _ => rfl) (SR.of hS (w := 23) (l := wE) (by decide) rfl wE_ok.lt) (fun z => absurd z (by show ¬ (1 : Nat) = 0; decide)) lj_ProphecyShopLaw_38_1 (by rw [hlen, hw6]; omega) rfl d_PL_begins_196 (fun M9 b9 => ?_)) (by omega) (by omega)
    obtain ⟨G1, nx1⟩ := M9
    have hB1 := hB.app b9
    refine ev_ldcS (i := 11) (tx := "e") (by decide) d_PL_begins_199 ?_
    refine ev_iload (i := 4) rfl d_PL_begins_201 ?_
    refine Ev.room (mc := 6 + (2 + (9 * j + mc))) (ms := 72 + (1600 + (2472 * j + ms))) (cw_S [.inr (1, 11), .inl (.int (nI k))] lk_ProphecyShopLaw_60 (M_name (d + 3) hS (p := 101) (by decide) rfl (by decide) (by omega)) rfl rfl d_PL_begins_203 ⟨fun w9 M9 hP => ?_, fun E9 M9 hP => by obtain ⟨_, hv, -⟩ := hP; cases hv⟩) (by omega) (by omega)
    obtain ⟨s1, hw9, q1, q2, q3, q4, q5⟩ := hP
    cases hw9
    refine Ev.room (mc := 1 + (1 + (9 * j + mc))) (ms := 2 * 400 + (800 + (2472 * j + ms))) (ev_appS (d := d + 5) (k9 := 6) hB1.2.2.2 ⟨by show nx1 ≤ M9.2; omega, by show M9.2 ≤ nx1 + 6; omega⟩ q5 q4 (fun _ => by show nx1 ≤ s1 + 1; omega) lj_ProphecyShopLaw_38_1 (by rw [List.length_append, hlen, hw6]; show _ + 2 ≤ _; omega) rfl d_PL_begins_206 (fun M9 b9 => ?_)) (by omega) (by omega)
    obtain ⟨G2, nx2⟩ := M9
    have hB2 := hB1.app b9
    refine cw_bipush 59 d_PL_begins_209 rfl ?_
    refine Ev.room (mc := 1 + (0 + (9 * j + mc))) (ms := 2 * 400 + (0 + (2472 * j + ms))) (ev_appC (c := 59) (d := d + 5) hB2.2.2.2 lj_ProphecyShopLaw_41_1 (by omega) (by rw [List.length_append, List.length_append, hlen, hw6]; show _ + 2 + 1 ≤ _; omega) rfl d_PL_begins_211 (fun M9 b9 => ?_)) (by omega) (by omega)
    obtain ⟨G3, nx3⟩ := M9
    have hB3 := hB2.app b9
    refine ev_pop rfl d_PL_begins_214 ?_
    refine cw_iincN 4 1 [some (.inr (0, off 12 0)), some (.inr (0, off 60 b)), some (.inr (1, 90)), some (.inr (0, n0)), some (.inl (.int (nI (k + 1))))] d_PL_begins_215 rfl rfl rfl rfl (by rw [nI_1]; rfl) ?_
    refine ev_goto (tgt := 183) (by decide) d_PL_begins_218 ?_
    exact Ev.room (ih (k + 1) G3 nx3 (by omega) (BS.le hB3 (by omega))) (by omega) (by omega)
theorem beg_pl (d : Nat) (hS : SG g) (hX : X.length ≤ 200) (hE : P ≤ 6) (hf : v 60 b 7 = nI P) (K : ∀ G nx, BS G nx n0 b (bb + 9 * P) μ v (tnA X wP 112 P) → Ev g (d + 10) m_PL_begins 262 [some (.inr (0, off 12 0)), some (.inr (0, off 60 b)), some (.inr (1, 90)), some (.inr (0, n0)), some (.inl (.int (nI P)))] [] (G, nx) mc ms Post) : ∀ j k G nx, k + j = P → BS G nx n0 b (bb + 9 * k) μ v (tnA X wP 112 k) → Ev g (d + 10) m_PL_begins 224 [some (.inr (0, off 12 0)), some (.inr (0, off 60 b)), some (.inr (1, 90)), some (.inr (0, n0)), some (.inl (.int (nI k)))] [] (G, nx) (9 * j + mc) (2472 * j + ms) Post := by
  intro j
  induction j with
  | zero =>
    intro k G nx hk hB
    obtain rfl : k = P := by omega
    refine ev_iload (i := 4) rfl d_PL_begins_224 ?_
    refine ev_aload_n (k0 := 1) rfl d_PL_begins_226 ?_
    refine cv_getN (.inl (.int (v 60 b 7))) hB.2.1 vo_0 gn_162 rfl rfl d_PL_begins_227 ?_
    rw [hf]
    refine ev_icmp_ge (tgt := 262) (by decide) d_PL_begins_230 (fun _ => ?_) (fun c => absurd (nI_le (Nat.le_refl _) (by omega)) c)
    exact Ev.room (K G nx hB) (by omega) (by omega)
  | succ j ih =>
    intro k G nx hk hB
    have hlen := tnA_len (X := X) (w := wP) (p := 112) k
    have hw6 : wP.length = 6 := rfl
    rw [hw6] at hlen
    refine ev_iload (i := 4) rfl d_PL_begins_224 ?_
    refine ev_aload_n (k0 := 1) rfl d_PL_begins_226 ?_
    refine cv_getN (.inl (.int (v 60 b 7))) hB.2.1 vo_0 gn_162 rfl rfl d_PL_begins_227 ?_
    rw [hf]
    refine ev_icmp_ge (tgt := 262) (by decide) d_PL_begins_230 (fun c => absurd c (nI_ge (by omega) (by omega))) (fun _ => ?_)
    refine ev_aload_n (k0 := 3) rfl d_PL_begins_233 ?_
    refine ev_ldcwS (i := 24) (tx := "place ") (by decide) d_PL_begins_234 ?_
    refine Ev.room (mc := 1 + (8 + (9 * j + mc))) (ms := 2 * 400 + (1672 + (2472 * j + ms))) (ev_appS (d := d + 5) (k9 := 0) hB.2.2.2 ⟨Nat.le_refl _, Nat.le_refl _⟩ (fun _ _ => rfl) (SR.of hS (w := 24) (l := wP) (by decide) rfl wP_ok.lt) (fun z => absurd z (by show ¬ (1 : Nat) = 0; decide)) lj_ProphecyShopLaw_38_1 (by rw [hlen, hw6]; omega) rfl d_PL_begins_237 (fun M9 b9 => ?_)) (by omega) (by omega)
    obtain ⟨G1, nx1⟩ := M9
    have hB1 := hB.app b9
    refine ev_ldcS (i := 13) (tx := "p") (by decide) d_PL_begins_240 ?_
    refine ev_iload (i := 4) rfl d_PL_begins_242 ?_
    refine Ev.room (mc := 6 + (2 + (9 * j + mc))) (ms := 72 + (1600 + (2472 * j + ms))) (cw_S [.inr (1, 13), .inl (.int (nI k))] lk_ProphecyShopLaw_60 (M_name (d + 3) hS (p := 112) (by decide) rfl (by decide) (by omega)) rfl rfl d_PL_begins_244 ⟨fun w9 M9 hP => ?_, fun E9 M9 hP => by obtain ⟨_, hv, -⟩ := hP; cases hv⟩) (by omega) (by omega)
    obtain ⟨s1, hw9, q1, q2, q3, q4, q5⟩ := hP
    cases hw9
    refine Ev.room (mc := 1 + (1 + (9 * j + mc))) (ms := 2 * 400 + (800 + (2472 * j + ms))) (ev_appS (d := d + 5) (k9 := 6) hB1.2.2.2 ⟨by show nx1 ≤ M9.2; omega, by show M9.2 ≤ nx1 + 6; omega⟩ q5 q4 (fun _ => by show nx1 ≤ s1 + 1; omega) lj_ProphecyShopLaw_38_1 (by rw [List.length_append, hlen, hw6]; show _ + 2 ≤ _; omega) rfl d_PL_begins_247 (fun M9 b9 => ?_)) (by omega) (by omega)
    obtain ⟨G2, nx2⟩ := M9
    have hB2 := hB1.app b9
    refine cw_bipush 59 d_PL_begins_250 rfl ?_
    refine Ev.room (mc := 1 + (0 + (9 * j + mc))) (ms := 2 * 400 + (0 + (2472 * j + ms))) (ev_appC (c := 59) (d := d + 5) hB2.2.2.2 lj_ProphecyShopLaw_41_1 (by omega) (by rw [List.length_append, List.length_append, hlen, hw6]; show _ + 2 + 1 ≤ _; omega) rfl d_PL_begins_252 (fun M9 b9 => ?_)) (by omega) (by omega)
    obtain ⟨G3, nx3⟩ := M9
    have hB3 := hB2.app b9
    refine ev_pop rfl d_PL_begins_255 ?_
    refine cw_iincN 4 1 [some (.inr (0, off 12 0)), some (.inr (0, off 60 b)), some (.inr (1, 90)), some (.inr (0, n0)), some (.inl (.int (nI (k + 1))))] d_PL_begins_256 rfl rfl rfl rfl (by rw [nI_1]; rfl) ?_
    refine ev_goto (tgt := 224) (by decide) d_PL_begins_259 ?_
    exact Ev.room (ih (k + 1) G3 nx3 (by omega) (BS.le hB3 (by omega))) (by omega) (by omega)
/-- the customers drawn so far -/
def CU (v : Mem) (b k : Nat) (pu fa : Nat → Nat) : Prop := ∀ i, i < k → v 61 b i = nI (pu i) ∧ v 62 b i = nI (fa i) ∧ pu i ≤ 399 ∧ 1 ≤ fa i ∧ fa i ≤ 30
def FV2 (k1 k2 : Nat) (v v' : Mem) : Prop := ∀ K, K ≠ k1 → K ≠ k2 → v' K = v K
theorem beg_cu (d : Nat) (hS : SG g) (hD : DG g) (hA : AR g) (hX : X.length ≤ 200) (hC : C ≤ 8) {v0 : Mem} (hf : v0 60 b 8 = nI C) (K : ∀ G nx v pu fa, BS G nx n0 b (bb + 13 * C) μ v (tcA X pu fa C) → CU v b C pu fa → FV2 61 62 v0 v → Ev g (d + 10) m_PL_begins 376 [some (.inr (0, off 12 0)), some (.inr (0, off 60 b)), some (.inr (1, 90)), some (.inr (0, n0)), some (.inl (.int (nI C)))] [] (G, nx) mc ms Post) : ∀ j k G nx v pu fa, k + j = C → BS G nx n0 b (bb + 13 * k) μ v (tcA X pu fa k) → CU v b k pu fa → FV2 61 62 v0 v → Ev g (d + 10) m_PL_begins 265 [some (.inr (0, off 12 0)), some (.inr (0, off 60 b)), some (.inr (1, 90)), some (.inr (0, n0)), some (.inl (.int (nI k)))] [] (G, nx) (13 * j + mc) (5672 * j + ms) Post := by
  intro j
  induction j with
  | zero =>
    intro k G nx v pu fa hk hB hU hF
    obtain rfl : k = C := by omega
    have hf9 : v 60 b 8 = nI k := by rw [hF 60 (by decide) (by decide)]; exact hf
    refine ev_iload (i := 4) rfl d_PL_begins_265 ?_
    refine ev_aload_n (k0 := 1) rfl d_PL_begins_267 ?_
    refine cv_getN (.inl (.int (v 60 b 8))) hB.2.1 vo_0 gn_203 rfl rfl d_PL_begins_268 ?_
    rw [hf9]
    refine ev_icmp_ge (tgt := 376) (by decide) d_PL_begins_271 (fun _ => ?_) (fun c => absurd (nI_le (Nat.le_refl _) (by omega)) c)
    exact Ev.room (K G nx v pu fa hB hU hF) (by omega) (by omega)
  | succ j ih =>
    intro k G nx v pu fa hk hB hU hF
    have hf9 : v 60 b 8 = nI C := by rw [hF 60 (by decide) (by decide)]; exact hf
    have hlen := tcA_len (X := X) (pu := pu) (fa := fa) k (fun i hi => ⟨by have := hU i hi; omega, by have := hU i hi; omega⟩)
    have hw9 : wC.length = 9 := rfl
    refine ev_iload (i := 4) rfl d_PL_begins_265 ?_
    refine ev_aload_n (k0 := 1) rfl d_PL_begins_267 ?_
    refine cv_getN (.inl (.int (v 60 b 8))) hB.2.1 vo_0 gn_203 rfl rfl d_PL_begins_268 ?_
    rw [hf9]
    refine ev_icmp_ge (tgt := 376) (by decide) d_PL_begins_271 (fun c => absurd c (nI_ge (by omega) (by omega))) (fun _ => ?_)
    refine ev_aload_n (k0 := 1) rfl d_PL_begins_274 ?_
    refine cv_getN (.inr (0, off 61 b)) hB.2.1 vo_0 gn_209 rfl rfl d_PL_begins_275 ?_
    refine ev_iload (i := 4) rfl d_PL_begins_278 ?_
    refine ev_aload_n (k0 := 2) rfl d_PL_begins_280 ?_
    refine cw_bipush 9 d_PL_begins_281 rfl ?_
    refine cw_iconst 2 d_PL_begins_283 rfl ?_
    refine ev_iload (i := 4) rfl d_PL_begins_284 ?_
    refine ev_imul d_PL_begins_286 ?_
    rw [show (2 : Int32) * nI k = nI (2 * k) from pk_mul 2 k]
    refine ev_iadd d_PL_begins_287 ?_
    rw [show (9 : Int32) + nI (2 * k) = nI (9 + (2 * k)) from nI_add 9 (2 * k)]
    refine cw_sipush 400 d_PL_begins_288 rfl ?_
    refine Ev.z9 (cw_S [.inr (1, 90), .inl (.int (nI (9 + 2 * k))), .inl (.int (nI 400))] lk_ProphecyShopLaw_325 (M_pick (d + 8) hA (by omega) (by omega) (by omega)) rfl rfl d_PL_begins_291 ⟨fun w9 M9 hP => ?_, fun E9 M9 hP => by obtain ⟨-, j9, -, hv⟩ := hP; cases hv⟩)
    obtain ⟨hM9, pu9, gpu9, hv⟩ := hP
    subst hM9
    cases hv
    refine cv_iast hB.2.1 okO (voK (by decide) (by decide)) rfl rfl (show inb (nI k) 8 = true from inb_of (by omega) (by omega)) rfl d_PL_begins_294 (fun G1 hO1 => ?_)
    rw [nI_clamp (by omega)] at hO1
    generalize hu1 : st3 v 61 b k (nI pu9) = u1 at hO1
    have hB1 := hB.put hO1
    refine ev_aload_n (k0 := 1) rfl d_PL_begins_295 ?_
    refine cv_getN (.inr (0, off 62 b)) hB1.2.1 vo_0 gn_369 rfl rfl d_PL_begins_296 ?_
    refine ev_iload (i := 4) rfl d_PL_begins_299 ?_
    refine cw_iconst 1 d_PL_begins_301 rfl ?_
    refine ev_aload_n (k0 := 2) rfl d_PL_begins_302 ?_
    refine cw_bipush 10 d_PL_begins_303 rfl ?_
    refine cw_iconst 2 d_PL_begins_305 rfl ?_
    refine ev_iload (i := 4) rfl d_PL_begins_306 ?_
    refine ev_imul d_PL_begins_308 ?_
    rw [show (2 : Int32) * nI k = nI (2 * k) from pk_mul 2 k]
    refine ev_iadd d_PL_begins_309 ?_
    rw [show (10 : Int32) + nI (2 * k) = nI (10 + (2 * k)) from nI_add 10 (2 * k)]
    refine cw_bipush 30 d_PL_begins_310 rfl ?_
    refine Ev.z9 (cw_S [.inr (1, 90), .inl (.int (nI (10 + 2 * k))), .inl (.int (nI 30))] lk_ProphecyShopLaw_325 (M_pick (d + 8) hA (by omega) (by omega) (by omega)) rfl rfl d_PL_begins_312 ⟨fun w9 M9 hP => ?_, fun E9 M9 hP => by obtain ⟨-, j9, -, hv⟩ := hP; cases hv⟩)
    obtain ⟨hM9, fa0, gfa0, hv⟩ := hP
    subst hM9
    cases hv
    refine ev_iadd d_PL_begins_315 ?_
    rw [show (1 : Int32) + nI fa0 = nI (1 + fa0) from nI_add 1 fa0]
    obtain ⟨fa9, hfa9, gfa9⟩ : ∃ z, z = 1 + fa0 ∧ 1 ≤ z ∧ z ≤ 30 := ⟨_, rfl, by omega, by omega⟩
    rw [← hfa9]
    refine cv_iast hB1.2.1 okO (voK (by decide) (by decide)) rfl rfl (show inb (nI k) 8 = true from inb_of (by omega) (by omega)) rfl d_PL_begins_316 (fun G2 hO2 => ?_)
    rw [nI_clamp (by omega)] at hO2
    generalize hu2 : st3 u1 62 b k (nI fa9) = u2 at hO2
    have hB2 := hB1.put hO2
    have r61 : u2 61 b = ua (v 61 b) k (nI pu9) := by rw [← hu2, st3_K (by decide), ← hu1, st3_ua]
    have r62 : u2 62 b = ua (v 62 b) k (nI fa9) := by rw [← hu2, st3_ua, ← hu1, st3_K (by decide)]
    have hd1 := dl_3 (v := pu9) (by omega)
    have hd2 := dl_2 (v := fa9) (by omega)
    refine ev_aload_n (k0 := 3) rfl d_PL_begins_317 ?_
    refine ev_ldcwS (i := 25) (tx := "customer ") (by decide) d_PL_begins_318 ?_
    refine Ev.room (mc := 1 + (12 + (13 * j + mc))) (ms := 2 * 400 + (4872 + (5672 * j + ms))) (ev_appS (d := d + 5) (k9 := 0) hB2.2.2.2 ⟨Nat.le_refl _, Nat.le_refl _⟩ (fun _ _ => rfl) (SR.of hS (w := 25) (l := wC) (by decide) rfl wC_ok.lt) (fun z => absurd z (by show ¬ (1 : Nat) = 0; decide)) lj_ProphecyShopLaw_38_1 (by simp only [List.length_append, List.length_cons, List.length_nil, digs_len, hw9]; omega) rfl d_PL_begins_321 (fun M9 b9 => ?_)) (by omega) (by omega)
    obtain ⟨G3, nx3⟩ := M9
    have hB3 := hB2.app b9
    refine ev_ldcS (i := 8) (tx := "c") (by decide) d_PL_begins_324 ?_
    refine ev_iload (i := 4) rfl d_PL_begins_326 ?_
    refine Ev.room (mc := 6 + (6 + (13 * j + mc))) (ms := 72 + (4800 + (5672 * j + ms))) (cw_S [.inr (1, 8), .inl (.int (nI k))] lk_ProphecyShopLaw_60 (M_name (d + 3) hS (p := 99) (by decide) rfl (by decide) (by omega)) rfl rfl d_PL_begins_328 ⟨fun w9 M9 hP => ?_, fun E9 M9 hP => by obtain ⟨_, hv, -⟩ := hP; cases hv⟩) (by omega) (by omega)
    obtain ⟨s1, hw9, q1, q2, q3, q4, q5⟩ := hP
    cases hw9
    refine Ev.room (mc := 1 + (5 + (13 * j + mc))) (ms := 2 * 400 + (4000 + (5672 * j + ms))) (ev_appS (d := d + 5) (k9 := 6) hB3.2.2.2 ⟨by show nx3 ≤ M9.2; omega, by show M9.2 ≤ nx3 + 6; omega⟩ q5 q4 (fun _ => by show nx3 ≤ s1 + 1; omega) lj_ProphecyShopLaw_38_1 (by simp only [List.length_append, List.length_cons, List.length_nil, digs_len, hw9]; omega) rfl d_PL_begins_331 (fun M9 b9 => ?_)) (by omega) (by omega)
    obtain ⟨G4, nx4⟩ := M9
    have hB4 := hB3.app b9
    refine cw_bipush 32 d_PL_begins_334 rfl ?_
    refine Ev.room (mc := 1 + (4 + (13 * j + mc))) (ms := 2 * 400 + (3200 + (5672 * j + ms))) (ev_appC (c := 32) (d := d + 5) hB4.2.2.2 lj_ProphecyShopLaw_41_1 (by omega) (by simp only [List.length_append, List.length_cons, List.length_nil, digs_len, hw9]; omega) rfl d_PL_begins_336 (fun M9 b9 => ?_)) (by omega) (by omega)
    obtain ⟨G5, nx5⟩ := M9
    have hB5 := hB4.app b9
    refine ev_aload_n (k0 := 1) rfl d_PL_begins_339 ?_
    refine cv_getN (.inr (0, off 61 b)) hB5.2.1 vo_0 gn_209 rfl rfl d_PL_begins_340 ?_
    refine ev_iload (i := 4) rfl d_PL_begins_343 ?_
    refine cv_iald hB5.2.1 (voK (by decide) (by decide)) rfl rfl (show inb (nI k) 8 = true from inb_of (by omega) (by omega)) rfl d_PL_begins_345 ?_
    rw [nI_clamp (by omega)]
    rw [r61, ua_S]
    refine Ev.room (mc := 1 + (3 + (13 * j + mc))) (ms := 2 * 400 + (2400 + (5672 * j + ms))) (ev_appI (v := pu9) (d := d + 5) hD hB5.2.2.2 lj_ProphecyShopLaw_87_1 (by omega) (by simp only [List.length_append, List.length_cons, List.length_nil, digs_len, hw9]; omega) rfl d_PL_begins_346 (fun M9 b9 => ?_)) (by omega) (by omega)
    obtain ⟨G6, nx6⟩ := M9
    have hB6 := hB5.app b9
    refine cw_bipush 32 d_PL_begins_349 rfl ?_
    refine Ev.room (mc := 1 + (2 + (13 * j + mc))) (ms := 2 * 400 + (1600 + (5672 * j + ms))) (ev_appC (c := 32) (d := d + 5) hB6.2.2.2 lj_ProphecyShopLaw_41_1 (by omega) (by simp only [List.length_append, List.length_cons, List.length_nil, digs_len, hw9]; omega) rfl d_PL_begins_351 (fun M9 b9 => ?_)) (by omega) (by omega)
    obtain ⟨G7, nx7⟩ := M9
    have hB7 := hB6.app b9
    refine ev_aload_n (k0 := 1) rfl d_PL_begins_354 ?_
    refine cv_getN (.inr (0, off 62 b)) hB7.2.1 vo_0 gn_369 rfl rfl d_PL_begins_355 ?_
    refine ev_iload (i := 4) rfl d_PL_begins_358 ?_
    refine cv_iald hB7.2.1 (voK (by decide) (by decide)) rfl rfl (show inb (nI k) 8 = true from inb_of (by omega) (by omega)) rfl d_PL_begins_360 ?_
    rw [nI_clamp (by omega)]
    rw [r62, ua_S]
    refine Ev.room (mc := 1 + (1 + (13 * j + mc))) (ms := 2 * 400 + (800 + (5672 * j + ms))) (ev_appI (v := fa9) (d := d + 5) hD hB7.2.2.2 lj_ProphecyShopLaw_87_1 (by omega) (by simp only [List.length_append, List.length_cons, List.length_nil, digs_len, hw9]; omega) rfl d_PL_begins_361 (fun M9 b9 => ?_)) (by omega) (by omega)
    obtain ⟨G8, nx8⟩ := M9
    have hB8 := hB7.app b9
    refine cw_bipush 59 d_PL_begins_364 rfl ?_
    refine Ev.room (mc := 1 + (0 + (13 * j + mc))) (ms := 2 * 400 + (0 + (5672 * j + ms))) (ev_appC (c := 59) (d := d + 5) hB8.2.2.2 lj_ProphecyShopLaw_41_1 (by omega) (by simp only [List.length_append, List.length_cons, List.length_nil, digs_len, hw9]; omega) rfl d_PL_begins_366 (fun M9 b9 => ?_)) (by omega) (by omega)
    obtain ⟨G9, nx9⟩ := M9
    have hB9 := hB8.app b9
    refine ev_pop rfl d_PL_begins_369 ?_
    obtain ⟨pu8, p1, p2⟩ : ∃ f : Nat → Nat, f k = pu9 ∧ ∀ i, i < k → f i = pu i := ⟨fun i => if i = k then pu9 else pu i, if_pos rfl, fun i hi => if_neg (by omega)⟩
    obtain ⟨fa8, f1, f2⟩ : ∃ f : Nat → Nat, f k = fa9 ∧ ∀ i, i < k → f i = fa i := ⟨fun i => if i = k then fa9 else fa i, if_pos rfl, fun i hi => if_neg (by omega)⟩
    refine cw_iincN 4 1 [some (.inr (0, off 12 0)), some (.inr (0, off 60 b)), some (.inr (1, 90)), some (.inr (0, n0)), some (.inl (.int (nI (k + 1))))] d_PL_begins_370 rfl rfl rfl rfl (by rw [nI_1]; rfl) ?_
    refine ev_goto (tgt := 265) (by decide) d_PL_begins_373 ?_
    refine Ev.room (ih (k + 1) G9 nx9 u2 pu8 fa8 (by omega) ((BS.le hB9 (by omega)).at ?_) (fun i hi => ?_) (fun K h1 h2 => ?_)) (by omega) (by omega)
    · show ((((((tcA X pu8 fa8 k ++ wC) ++ [99, 97 + k]) ++ [32]) ++ digs (pu8 k)) ++ [32]) ++ digs (fa8 k)) ++ [59] = _
      rw [tcA_cong k (fun i hi => ⟨p2 i hi, f2 i hi⟩), p1, f1]
    · rw [r61, r62]
      by_cases e : i = k
      · rw [e, ua_S, ua_S, p1, f1]; exact ⟨rfl, rfl, by omega, by omega, by omega⟩
      · rw [ua_N e, ua_N e, p2 i (by omega), f2 i (by omega)]; exact hU i (by omega)
    · rw [← hu2, st3_K h2, ← hu1, st3_K h1]; exact hF K h1 h2
/-- the owls drawn so far -/
def OU (v : Mem) (b k : Nat) (sp : Nat → Nat) : Prop := ∀ i, i < k → v 63 b i = nI (sp i) ∧ v 66 b i = -1 ∧ 1 ≤ sp i ∧ sp i ≤ 9
theorem beg_ow (d : Nat) (hS : SG g) (hD : DG g) (hA : AR g) (hX : X.length ≤ 300) (hO5 : O ≤ 5) {v0 : Mem} (hf : v0 60 b 9 = nI O) (K : ∀ G nx v sp, BS G nx n0 b (bb + 3 * O) μ v (toA X sp O) → OU v b O sp → FV2 63 66 v0 v → Ev g (d + 10) m_PL_begins 445 [some (.inr (0, off 12 0)), some (.inr (0, off 60 b)), some (.inr (1, 90)), some (.inr (0, n0)), some (.inl (.int (nI O)))] [] (G, nx) mc ms Post) : ∀ j k G nx v sp, k + j = O → BS G nx n0 b (bb + 3 * k) μ v (toA X sp k) → OU v b k sp → FV2 63 66 v0 v → Ev g (d + 10) m_PL_begins 379 [some (.inr (0, off 12 0)), some (.inr (0, off 60 b)), some (.inr (1, 90)), some (.inr (0, n0)), some (.inl (.int (nI k)))] [] (G, nx) (3 * j + mc) (2400 * j + ms) Post := by
  intro j
  induction j with
  | zero =>
    intro k G nx v sp hk hB hU hF
    obtain rfl : k = O := by omega
    have hf9 : v 60 b 9 = nI k := by rw [hF 60 (by decide) (by decide)]; exact hf
    refine ev_iload (i := 4) rfl d_PL_begins_379 ?_
    refine ev_aload_n (k0 := 1) rfl d_PL_begins_381 ?_
    refine cv_getN (.inl (.int (v 60 b 9))) hB.2.1 vo_0 gn_211 rfl rfl d_PL_begins_382 ?_
    rw [hf9]
    refine ev_icmp_ge (tgt := 445) (by decide) d_PL_begins_385 (fun _ => ?_) (fun c => absurd (nI_le (Nat.le_refl _) (by omega)) c)
    exact Ev.room (K G nx v sp hB hU hF) (by omega) (by omega)
  | succ j ih =>
    intro k G nx v sp hk hB hU hF
    have hf9 : v 60 b 9 = nI O := by rw [hF 60 (by decide) (by decide)]; exact hf
    have hlen := toA_len (X := X) (sp := sp) k (fun i hi => by have := hU i hi; omega)
    have hw9 : wO.length = 4 := rfl
    refine ev_iload (i := 4) rfl d_PL_begins_379 ?_
    refine ev_aload_n (k0 := 1) rfl d_PL_begins_381 ?_
    refine cv_getN (.inl (.int (v 60 b 9))) hB.2.1 vo_0 gn_211 rfl rfl d_PL_begins_382 ?_
    rw [hf9]
    refine ev_icmp_ge (tgt := 445) (by decide) d_PL_begins_385 (fun c => absurd c (nI_ge (by omega) (by omega))) (fun _ => ?_)
    refine ev_aload_n (k0 := 1) rfl d_PL_begins_388 ?_
    refine cv_getN (.inr (0, off 63 b)) hB.2.1 vo_0 gn_374 rfl rfl d_PL_begins_389 ?_
    refine ev_iload (i := 4) rfl d_PL_begins_392 ?_
    refine cw_iconst 1 d_PL_begins_394 rfl ?_
    refine ev_aload_n (k0 := 2) rfl d_PL_begins_395 ?_
    refine cw_bipush 25 d_PL_begins_396 rfl ?_
    refine ev_iload (i := 4) rfl d_PL_begins_398 ?_
    refine ev_iadd d_PL_begins_400 ?_
    rw [show (25 : Int32) + nI k = nI (25 + k) from nI_add 25 k]
    refine cw_bipush 9 d_PL_begins_401 rfl ?_
    refine Ev.z9 (cw_S [.inr (1, 90), .inl (.int (nI (25 + k))), .inl (.int (nI 9))] lk_ProphecyShopLaw_325 (M_pick (d + 8) hA (by omega) (by omega) (by omega)) rfl rfl d_PL_begins_403 ⟨fun w9 M9 hP => ?_, fun E9 M9 hP => by obtain ⟨-, j9, -, hv⟩ := hP; cases hv⟩)
    obtain ⟨hM9, sp0, gsp0, hv⟩ := hP
    subst hM9
    cases hv
    refine ev_iadd d_PL_begins_406 ?_
    rw [show (1 : Int32) + nI sp0 = nI (1 + sp0) from nI_add 1 sp0]
    obtain ⟨sp9, hsp9, gsp9⟩ : ∃ z, z = 1 + sp0 ∧ 1 ≤ z ∧ z ≤ 9 := ⟨_, rfl, by omega, by omega⟩
    rw [← hsp9]
    refine cv_iast hB.2.1 okO (voK (by decide) (by decide)) rfl rfl (show inb (nI k) 5 = true from inb_of (by omega) (by omega)) rfl d_PL_begins_407 (fun G1 hO1 => ?_)
    rw [nI_clamp (by omega)] at hO1
    generalize hu1 : st3 v 63 b k (nI sp9) = u1 at hO1
    have hB1 := hB.put hO1
    refine ev_aload_n (k0 := 1) rfl d_PL_begins_408 ?_
    refine cv_getN (.inr (0, off 66 b)) hB1.2.1 vo_0 gn_377 rfl rfl d_PL_begins_409 ?_
    refine ev_iload (i := 4) rfl d_PL_begins_412 ?_
    refine cw_iconst (-1) d_PL_begins_414 rfl ?_
    refine cv_iast hB1.2.1 okO (voK (by decide) (by decide)) rfl rfl (show inb (nI k) 5 = true from inb_of (by omega) (by omega)) rfl d_PL_begins_415 (fun G2 hO2 => ?_)
    rw [nI_clamp (by omega)] at hO2
    generalize hu2 : st3 u1 66 b k ((-1)) = u2 at hO2
    have hB2 := hB1.put hO2
    have r63 : u2 63 b = ua (v 63 b) k (nI sp9) := by rw [← hu2, st3_K (by decide), ← hu1, st3_ua]
    have r66 : u2 66 b = ua (v 66 b) k (-1) := by rw [← hu2, st3_ua, ← hu1, st3_K (by decide)]
    have hd1 := dl_s (w := sp9) (by omega)
    refine ev_aload_n (k0 := 3) rfl d_PL_begins_416 ?_
    refine ev_ldcwS (i := 26) (tx := "owl ") (by decide) d_PL_begins_417 ?_
    refine Ev.room (mc := 1 + (2 + (3 * j + mc))) (ms := 2 * 400 + (1600 + (2400 * j + ms))) (ev_appS (d := d + 5) (k9 := 0) hB2.2.2.2 ⟨Nat.le_refl _, Nat.le_refl _⟩ (fun _ _ => rfl) (SR.of hS (w := 26) (l := wO) (by decide) rfl wO_ok.lt) (fun z => absurd z (by show ¬ (1 : Nat) = 0; decide)) lj_ProphecyShopLaw_38_1 (by simp only [List.length_append, List.length_cons, List.length_nil, digs_len, hw9]; omega) rfl d_PL_begins_420 (fun M9 b9 => ?_)) (by omega) (by omega)
    obtain ⟨G3, nx3⟩ := M9
    have hB3 := hB2.app b9
    refine ev_aload_n (k0 := 1) rfl d_PL_begins_423 ?_
    refine cv_getN (.inr (0, off 63 b)) hB3.2.1 vo_0 gn_374 rfl rfl d_PL_begins_424 ?_
    refine ev_iload (i := 4) rfl d_PL_begins_427 ?_
    refine cv_iald hB3.2.1 (voK (by decide) (by decide)) rfl rfl (show inb (nI k) 5 = true from inb_of (by omega) (by omega)) rfl d_PL_begins_429 ?_
    rw [nI_clamp (by omega)]
    rw [r63, ua_S]
    refine Ev.room (mc := 1 + (1 + (3 * j + mc))) (ms := 2 * 400 + (800 + (2400 * j + ms))) (ev_appI (v := sp9) (d := d + 5) hD hB3.2.2.2 lj_ProphecyShopLaw_87_1 (by omega) (by simp only [List.length_append, List.length_cons, List.length_nil, digs_len, hw9]; omega) rfl d_PL_begins_430 (fun M9 b9 => ?_)) (by omega) (by omega)
    obtain ⟨G4, nx4⟩ := M9
    have hB4 := hB3.app b9
    refine cw_bipush 59 d_PL_begins_433 rfl ?_
    refine Ev.room (mc := 1 + (0 + (3 * j + mc))) (ms := 2 * 400 + (0 + (2400 * j + ms))) (ev_appC (c := 59) (d := d + 5) hB4.2.2.2 lj_ProphecyShopLaw_41_1 (by omega) (by simp only [List.length_append, List.length_cons, List.length_nil, digs_len, hw9]; omega) rfl d_PL_begins_435 (fun M9 b9 => ?_)) (by omega) (by omega)
    obtain ⟨G5, nx5⟩ := M9
    have hB5 := hB4.app b9
    refine ev_pop rfl d_PL_begins_438 ?_
    obtain ⟨sp8, p1, p2⟩ : ∃ f : Nat → Nat, f k = sp9 ∧ ∀ i, i < k → f i = sp i := ⟨fun i => if i = k then sp9 else sp i, if_pos rfl, fun i hi => if_neg (by omega)⟩
    refine cw_iincN 4 1 [some (.inr (0, off 12 0)), some (.inr (0, off 60 b)), some (.inr (1, 90)), some (.inr (0, n0)), some (.inl (.int (nI (k + 1))))] d_PL_begins_439 rfl rfl rfl rfl (by rw [nI_1]; rfl) ?_
    refine ev_goto (tgt := 379) (by decide) d_PL_begins_442 ?_
    refine Ev.room (ih (k + 1) G5 nx5 u2 sp8 (by omega) ((BS.le hB5 (by omega)).at ?_) (fun i hi => ?_) (fun K h1 h2 => ?_)) (by omega) (by omega)
    · show ((toA X sp8 k ++ wO) ++ digs (sp8 k)) ++ [59] = _
      rw [toA_cong k (fun i hi => p2 i hi), p1]
    · rw [r63, r66]
      by_cases e : i = k
      · rw [e, ua_S, ua_S, p1]; exact ⟨rfl, rfl, by omega, by omega⟩
      · rw [ua_N e, ua_N e, p2 i (by omega)]; exact hU i (by omega)
    · rw [← hu2, st3_K h2, ← hu1, st3_K h1]; exact hF K h1 h2
end Begin

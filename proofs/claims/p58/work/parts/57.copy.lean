/-! Own is copied. -/
def CPd (b b' : Nat) (v : Mem) (D : Nat → Nat → Prop) (u : Mem) : Prop := ∀ K f, D K f → u K b' f = v K b f
def addD (D : Nat → Nat → Prop) (K0 f0 : Nat) : Nat → Nat → Prop := fun K f => D K f ∨ (K = K0 ∧ f = f0)
theorem CPd.put {b b' : Nat} {v u : Mem} {D : Nat → Nat → Prop} (h : CPd b b' v D u) (K0 f0 : Nat) : CPd b b' v (addD D K0 f0) (st3 u K0 b' f0 (v K0 b f0)) := fun K f hd => by
  unfold st3
  by_cases e : K = K0 ∧ f = f0
  · rw [if_pos ⟨e.1, rfl, e.2⟩, e.1, e.2]
  · rw [if_neg (fun z => e ⟨z.1, z.2.2⟩)]
    rcases hd with hd | hd
    · exact h K f hd
    · exact absurd hd e
theorem CPd.mono {b b' : Nat} {v u : Mem} {D D' : Nat → Nat → Prop} (h : CPd b b' v D u) (hs : ∀ K f, D' K f → D K f) : CPd b b' v D' u := fun K f hd => h K f (hs K f hd)
/-- the cells that are copied -/
def cD (k1 k2 k3 k4 k5 K f : Nat) : Prop := (K = 60 ∧ f < 15) ∨ ((61 ≤ K ∧ K ≤ 62) ∧ f < k1) ∨ ((63 ≤ K ∧ K ≤ 67) ∧ f < k2) ∨ (((68 ≤ K ∧ K ≤ 76) ∨ K = 78) ∧ f < k3) ∨ (K = 77 ∧ f < k4) ∨ ((79 ≤ K ∧ K ≤ 80) ∧ f < k5)
theorem cp_src {b nx : Nat} {G Gi : RG} {u v : Mem} (hO : LM (vo b) b (b + 21) v G G) (h : LM (vo nx) nx (nx + 21) u G Gi) (hb : b + 21 ≤ nx) : LM (vo b) b (b + 21) v Gi Gi := ⟨fun K j hv => (h.2 _ (Or.inl (by have := okO.2 K j hv; omega))).trans (hO.1 K j hv), fun _ _ => rfl⟩
section Copy
variable {g : GL} {G : RG} {v : Mem} {b nx n w t : Nat}
set_option maxRecDepth 100000 in
set_option maxHeartbeats 2000000 in
theorem M_Own_copy (d : Nat) (hO : LM (vo b) b (b + 21) v G G) (hb2 : b + 21 ≤ nx) (h10 : v 60 b 10 = nI n) (hn : n ≤ 24) (h12 : v 60 b 12 = nI w) (hw : w ≤ 24) (h11 : v 60 b 11 = nI t) (ht : t ≤ 60) (hdn : ∀ k, k < n → v 78 b k = 0 ∨ v 78 b k = 1) : Mt g (d + 1) m_Own_copy [.inr (0, off 60 b)] (G, nx) 21 460 (fun r M' => r = .inr (some (.inr (0, off 60 nx))) ∧ M'.2 = nx + 21 ∧ ∃ u, LM (vo nx) nx (nx + 21) u G M'.1 ∧ CPd b nx v (cD 8 5 n w t) u) := by
  refine Mt.of9 [some (.inr (0, off 60 b)), none, none] (by decide +kernel) rfl rfl rfl rfl ?_
  have L5 : ∀ j k u Gi, k + j = t → LM (vo nx) nx (nx + 21) u G Gi → CPd b nx v (cD 8 5 n w k) u → Ev g (d + 1) m_Own_copy 405 [some (.inr (0, off 60 b)), some (.inr (0, off 60 nx)), some (.inl (.int (nI k)))] [] (Gi, nx + 21) 0 0 (fun r M' => r = .inr (some (.inr (0, off 60 nx))) ∧ M'.2 = nx + 21 ∧ ∃ u, LM (vo nx) nx (nx + 21) u G M'.1 ∧ CPd b nx v (cD 8 5 n w t) u) := by
    intro j
    induction j with
    | zero =>
      intro k u Gi hk h0 c0
      refine ev_iload_n (k0 := 2) rfl d_Own_copy_405 ?_
      refine ev_aload_n (k0 := 0) rfl d_Own_copy_406 ?_
      refine cv_get9 (.inl (.int (v 60 b 11))) (cp_src hO h0 hb2) vo_0 fg_Own_106_60 rfl rfl d_Own_copy_407 ?_
      rw [h11]
      refine ev_icmp_ge (tgt := 443) (by decide) d_Own_copy_410 (fun _ => ?_) (fun c => absurd (show nI t ≤ nI k from nI_le (by omega) (by omega)) c)
      obtain rfl : k = t := by omega
      refine ev_aload_n (k0 := 1) rfl d_Own_copy_443 ?_
      exact ev_areturn (st := []) rfl (Or.inl ⟨_, rfl⟩) d_Own_copy_444 ⟨rfl, rfl, u, h0, c0⟩
    | succ j ih =>
      intro k u Gi hk h0 c0
      refine ev_iload_n (k0 := 2) rfl d_Own_copy_405 ?_
      refine ev_aload_n (k0 := 0) rfl d_Own_copy_406 ?_
      refine cv_get9 (.inl (.int (v 60 b 11))) (cp_src hO h0 hb2) vo_0 fg_Own_106_60 rfl rfl d_Own_copy_407 ?_
      rw [h11]
      refine ev_icmp_ge (tgt := 443) (by decide) d_Own_copy_410 (fun c => absurd (show nI t ≤ nI k from c) (nI_ge (by omega) (by omega))) (fun _ => ?_)
      refine ev_aload_n (k0 := 1) rfl d_Own_copy_413 ?_
      refine cv_get9 (.inr (0, off 79 nx)) h0 vo_0 fg_Own_65_60 rfl rfl d_Own_copy_414 ?_
      refine ev_iload_n (k0 := 2) rfl d_Own_copy_417 ?_
      refine ev_aload_n (k0 := 0) rfl d_Own_copy_418 ?_
      refine cv_get9 (.inr (0, off 79 b)) (cp_src hO h0 hb2) vo_0 fg_Own_65_60 rfl rfl d_Own_copy_419 ?_
      refine ev_iload_n (k0 := 2) rfl d_Own_copy_422 ?_
      refine cv_iald (cp_src hO h0 hb2) (voK (by decide) (by decide)) rfl rfl (show inb (nI k) 60 = true from inb_of (by omega) (by omega)) rfl d_Own_copy_423 ?_
      refine cv_iast h0 okO (voK (by decide) (by decide)) rfl rfl (show inb (nI k) 60 = true from inb_of (by omega) (by omega)) rfl d_Own_copy_424 (fun G1 hO1 => ?_)
      rw [nI_clamp (by omega)] at hO1
      have c1 := c0.put 79 k
      generalize st3 u 79 nx k (v 79 b k) = u1 at hO1 c1
      refine ev_aload_n (k0 := 1) rfl d_Own_copy_425 ?_
      refine cv_get9 (.inr (0, off 80 nx)) hO1 vo_0 fg_Own_68_60 rfl rfl d_Own_copy_426 ?_
      refine ev_iload_n (k0 := 2) rfl d_Own_copy_429 ?_
      refine ev_aload_n (k0 := 0) rfl d_Own_copy_430 ?_
      refine cv_get9 (.inr (0, off 80 b)) (cp_src hO hO1 hb2) vo_0 fg_Own_68_60 rfl rfl d_Own_copy_431 ?_
      refine ev_iload_n (k0 := 2) rfl d_Own_copy_434 ?_
      refine cv_iald (cp_src hO hO1 hb2) (voK (by decide) (by decide)) rfl rfl (show inb (nI k) 60 = true from inb_of (by omega) (by omega)) rfl d_Own_copy_435 ?_
      refine cv_iast hO1 okO (voK (by decide) (by decide)) rfl rfl (show inb (nI k) 60 = true from inb_of (by omega) (by omega)) rfl d_Own_copy_436 (fun G2 hO2 => ?_)
      rw [nI_clamp (by omega)] at hO2
      have c2 := c1.put 80 k
      generalize st3 u1 80 nx k (v 80 b k) = u2 at hO2 c2
      refine cw_iincN 2 1 [some (.inr (0, off 60 b)), some (.inr (0, off 60 nx)), some (.inl (.int (nI (k + 1))))] d_Own_copy_437 rfl rfl rfl rfl (by rw [show nI (k + 1) = nI k + 1 from (nI_add _ _).symm]; rfl) ?_
      refine ev_goto (tgt := 405) (by decide) d_Own_copy_440 ?_
      refine ih (k + 1) u2 G2 (by omega) hO2 (c2.mono (fun K f hd => ?_))
      rcases (show cD 8 5 n w k K f ∨ ((K = 79 ∨ K = 80) ∧ f = k) by unfold cD at hd ⊢; omega) with hd | ⟨(hK | hK), hf⟩
      · exact (Or.inl (Or.inl hd))
      · exact (Or.inl (Or.inr ⟨hK, hf⟩))
      · exact (Or.inr ⟨hK, hf⟩)
  have L4 : ∀ j k u Gi, k + j = w → LM (vo nx) nx (nx + 21) u G Gi → CPd b nx v (cD 8 5 n k 0) u → Ev g (d + 1) m_Own_copy 377 [some (.inr (0, off 60 b)), some (.inr (0, off 60 nx)), some (.inl (.int (nI k)))] [] (Gi, nx + 21) 0 0 (fun r M' => r = .inr (some (.inr (0, off 60 nx))) ∧ M'.2 = nx + 21 ∧ ∃ u, LM (vo nx) nx (nx + 21) u G M'.1 ∧ CPd b nx v (cD 8 5 n w t) u) := by
    intro j
    induction j with
    | zero =>
      intro k u Gi hk h0 c0
      refine ev_iload_n (k0 := 2) rfl d_Own_copy_377 ?_
      refine ev_aload_n (k0 := 0) rfl d_Own_copy_378 ?_
      refine cv_get9 (.inl (.int (v 60 b 12))) (cp_src hO h0 hb2) vo_0 fg_Own_109_60 rfl rfl d_Own_copy_379 ?_
      rw [h12]
      refine ev_icmp_ge (tgt := 403) (by decide) d_Own_copy_382 (fun _ => ?_) (fun c => absurd (show nI w ≤ nI k from nI_le (by omega) (by omega)) c)
      obtain rfl : k = w := by omega
      refine cw_iconst 0 d_Own_copy_403 rfl ?_
      refine cw_istoreN_n 2 (nI 0) rfl [some (.inr (0, off 60 b)), some (.inr (0, off 60 nx)), some (.inl (.int (nI 0)))] d_Own_copy_404 rfl rfl rfl ?_
      exact L5 _ 0 u Gi (Nat.zero_add _) h0 (c0.mono (fun K f hd => by unfold cD at hd ⊢; omega))
    | succ j ih =>
      intro k u Gi hk h0 c0
      refine ev_iload_n (k0 := 2) rfl d_Own_copy_377 ?_
      refine ev_aload_n (k0 := 0) rfl d_Own_copy_378 ?_
      refine cv_get9 (.inl (.int (v 60 b 12))) (cp_src hO h0 hb2) vo_0 fg_Own_109_60 rfl rfl d_Own_copy_379 ?_
      rw [h12]
      refine ev_icmp_ge (tgt := 403) (by decide) d_Own_copy_382 (fun c => absurd (show nI w ≤ nI k from c) (nI_ge (by omega) (by omega))) (fun _ => ?_)
      refine ev_aload_n (k0 := 1) rfl d_Own_copy_385 ?_
      refine cv_get9 (.inr (0, off 77 nx)) h0 vo_0 fg_Own_58_60 rfl rfl d_Own_copy_386 ?_
      refine ev_iload_n (k0 := 2) rfl d_Own_copy_389 ?_
      refine ev_aload_n (k0 := 0) rfl d_Own_copy_390 ?_
      refine cv_get9 (.inr (0, off 77 b)) (cp_src hO h0 hb2) vo_0 fg_Own_58_60 rfl rfl d_Own_copy_391 ?_
      refine ev_iload_n (k0 := 2) rfl d_Own_copy_394 ?_
      refine cv_iald (cp_src hO h0 hb2) (voK (by decide) (by decide)) rfl rfl (show inb (nI k) 24 = true from inb_of (by omega) (by omega)) rfl d_Own_copy_395 ?_
      refine cv_iast h0 okO (voK (by decide) (by decide)) rfl rfl (show inb (nI k) 24 = true from inb_of (by omega) (by omega)) rfl d_Own_copy_396 (fun G1 hO1 => ?_)
      rw [nI_clamp (by omega)] at hO1
      have c1 := c0.put 77 k
      generalize st3 u 77 nx k (v 77 b k) = u1 at hO1 c1
      refine cw_iincN 2 1 [some (.inr (0, off 60 b)), some (.inr (0, off 60 nx)), some (.inl (.int (nI (k + 1))))] d_Own_copy_397 rfl rfl rfl rfl (by rw [show nI (k + 1) = nI k + 1 from (nI_add _ _).symm]; rfl) ?_
      refine ev_goto (tgt := 377) (by decide) d_Own_copy_400 ?_
      refine ih (k + 1) u1 G1 (by omega) hO1 (c1.mono (fun K f hd => ?_))
      rcases (show cD 8 5 n k 0 K f ∨ ((K = 77) ∧ f = k) by unfold cD at hd ⊢; omega) with hd | ⟨hK, hf⟩
      · exact (Or.inl hd)
      · exact (Or.inr ⟨hK, hf⟩)
  have L3 : ∀ j k u Gi, k + j = n → LM (vo nx) nx (nx + 21) u G Gi → CPd b nx v (cD 8 5 k 0 0) u → Ev g (d + 1) m_Own_copy 241 [some (.inr (0, off 60 b)), some (.inr (0, off 60 nx)), some (.inl (.int (nI k)))] [] (Gi, nx + 21) 0 0 (fun r M' => r = .inr (some (.inr (0, off 60 nx))) ∧ M'.2 = nx + 21 ∧ ∃ u, LM (vo nx) nx (nx + 21) u G M'.1 ∧ CPd b nx v (cD 8 5 n w t) u) := by
    intro j
    induction j with
    | zero =>
      intro k u Gi hk h0 c0
      refine ev_iload_n (k0 := 2) rfl d_Own_copy_241 ?_
      refine ev_aload_n (k0 := 0) rfl d_Own_copy_242 ?_
      refine cv_get9 (.inl (.int (v 60 b 10))) (cp_src hO h0 hb2) vo_0 fg_Own_103_60 rfl rfl d_Own_copy_243 ?_
      rw [h10]
      refine ev_icmp_ge (tgt := 375) (by decide) d_Own_copy_246 (fun _ => ?_) (fun c => absurd (show nI n ≤ nI k from nI_le (by omega) (by omega)) c)
      obtain rfl : k = n := by omega
      refine cw_iconst 0 d_Own_copy_375 rfl ?_
      refine cw_istoreN_n 2 (nI 0) rfl [some (.inr (0, off 60 b)), some (.inr (0, off 60 nx)), some (.inl (.int (nI 0)))] d_Own_copy_376 rfl rfl rfl ?_
      exact L4 _ 0 u Gi (Nat.zero_add _) h0 (c0.mono (fun K f hd => by unfold cD at hd ⊢; omega))
    | succ j ih =>
      intro k u Gi hk h0 c0
      refine ev_iload_n (k0 := 2) rfl d_Own_copy_241 ?_
      refine ev_aload_n (k0 := 0) rfl d_Own_copy_242 ?_
      refine cv_get9 (.inl (.int (v 60 b 10))) (cp_src hO h0 hb2) vo_0 fg_Own_103_60 rfl rfl d_Own_copy_243 ?_
      rw [h10]
      refine ev_icmp_ge (tgt := 375) (by decide) d_Own_copy_246 (fun c => absurd (show nI n ≤ nI k from c) (nI_ge (by omega) (by omega))) (fun _ => ?_)
      refine ev_aload_n (k0 := 1) rfl d_Own_copy_249 ?_
      refine cv_get9 (.inr (0, off 68 nx)) h0 vo_0 fg_Own_31_60 rfl rfl d_Own_copy_250 ?_
      refine ev_iload_n (k0 := 2) rfl d_Own_copy_253 ?_
      refine ev_aload_n (k0 := 0) rfl d_Own_copy_254 ?_
      refine cv_get9 (.inr (0, off 68 b)) (cp_src hO h0 hb2) vo_0 fg_Own_31_60 rfl rfl d_Own_copy_255 ?_
      refine ev_iload_n (k0 := 2) rfl d_Own_copy_258 ?_
      refine cv_iald (cp_src hO h0 hb2) (voK (by decide) (by decide)) rfl rfl (show inb (nI k) 24 = true from inb_of (by omega) (by omega)) rfl d_Own_copy_259 ?_
      refine cv_iast h0 okO (voK (by decide) (by decide)) rfl rfl (show inb (nI k) 24 = true from inb_of (by omega) (by omega)) rfl d_Own_copy_260 (fun G1 hO1 => ?_)
      rw [nI_clamp (by omega)] at hO1
      have c1 := c0.put 68 k
      generalize st3 u 68 nx k (v 68 b k) = u1 at hO1 c1
      refine ev_aload_n (k0 := 1) rfl d_Own_copy_261 ?_
      refine cv_get9 (.inr (0, off 69 nx)) hO1 vo_0 fg_Own_34_60 rfl rfl d_Own_copy_262 ?_
      refine ev_iload_n (k0 := 2) rfl d_Own_copy_265 ?_
      refine ev_aload_n (k0 := 0) rfl d_Own_copy_266 ?_
      refine cv_get9 (.inr (0, off 69 b)) (cp_src hO hO1 hb2) vo_0 fg_Own_34_60 rfl rfl d_Own_copy_267 ?_
      refine ev_iload_n (k0 := 2) rfl d_Own_copy_270 ?_
      refine cv_iald (cp_src hO hO1 hb2) (voK (by decide) (by decide)) rfl rfl (show inb (nI k) 24 = true from inb_of (by omega) (by omega)) rfl d_Own_copy_271 ?_
      refine cv_iast hO1 okO (voK (by decide) (by decide)) rfl rfl (show inb (nI k) 24 = true from inb_of (by omega) (by omega)) rfl d_Own_copy_272 (fun G2 hO2 => ?_)
      rw [nI_clamp (by omega)] at hO2
      have c2 := c1.put 69 k
      generalize st3 u1 69 nx k (v 69 b k) = u2 at hO2 c2
      refine ev_aload_n (k0 := 1) rfl d_Own_copy_273 ?_
      refine cv_get9 (.inr (0, off 70 nx)) hO2 vo_0 fg_Own_37_60 rfl rfl d_Own_copy_274 ?_
      refine ev_iload_n (k0 := 2) rfl d_Own_copy_277 ?_
      refine ev_aload_n (k0 := 0) rfl d_Own_copy_278 ?_
      refine cv_get9 (.inr (0, off 70 b)) (cp_src hO hO2 hb2) vo_0 fg_Own_37_60 rfl rfl d_Own_copy_279 ?_
      refine ev_iload_n (k0 := 2) rfl d_Own_copy_282 ?_
      refine cv_iald (cp_src hO hO2 hb2) (voK (by decide) (by decide)) rfl rfl (show inb (nI k) 24 = true from inb_of (by omega) (by omega)) rfl d_Own_copy_283 ?_
      refine cv_iast hO2 okO (voK (by decide) (by decide)) rfl rfl (show inb (nI k) 24 = true from inb_of (by omega) (by omega)) rfl d_Own_copy_284 (fun G3 hO3 => ?_)
      rw [nI_clamp (by omega)] at hO3
      have c3 := c2.put 70 k
      generalize st3 u2 70 nx k (v 70 b k) = u3 at hO3 c3
      refine ev_aload_n (k0 := 1) rfl d_Own_copy_285 ?_
      refine cv_get9 (.inr (0, off 71 nx)) hO3 vo_0 fg_Own_40_60 rfl rfl d_Own_copy_286 ?_
      refine ev_iload_n (k0 := 2) rfl d_Own_copy_289 ?_
      refine ev_aload_n (k0 := 0) rfl d_Own_copy_290 ?_
      refine cv_get9 (.inr (0, off 71 b)) (cp_src hO hO3 hb2) vo_0 fg_Own_40_60 rfl rfl d_Own_copy_291 ?_
      refine ev_iload_n (k0 := 2) rfl d_Own_copy_294 ?_
      refine cv_iald (cp_src hO hO3 hb2) (voK (by decide) (by decide)) rfl rfl (show inb (nI k) 24 = true from inb_of (by omega) (by omega)) rfl d_Own_copy_295 ?_
      refine cv_iast hO3 okO (voK (by decide) (by decide)) rfl rfl (show inb (nI k) 24 = true from inb_of (by omega) (by omega)) rfl d_Own_copy_296 (fun G4 hO4 => ?_)
      rw [nI_clamp (by omega)] at hO4
      have c4 := c3.put 71 k
      generalize st3 u3 71 nx k (v 71 b k) = u4 at hO4 c4
      refine ev_aload_n (k0 := 1) rfl d_Own_copy_297 ?_
      refine cv_get9 (.inr (0, off 72 nx)) hO4 vo_0 fg_Own_43_60 rfl rfl d_Own_copy_298 ?_
      refine ev_iload_n (k0 := 2) rfl d_Own_copy_301 ?_
      refine ev_aload_n (k0 := 0) rfl d_Own_copy_302 ?_
      refine cv_get9 (.inr (0, off 72 b)) (cp_src hO hO4 hb2) vo_0 fg_Own_43_60 rfl rfl d_Own_copy_303 ?_
      refine ev_iload_n (k0 := 2) rfl d_Own_copy_306 ?_
      refine cv_iald (cp_src hO hO4 hb2) (voK (by decide) (by decide)) rfl rfl (show inb (nI k) 24 = true from inb_of (by omega) (by omega)) rfl d_Own_copy_307 ?_
      refine cv_iast hO4 okO (voK (by decide) (by decide)) rfl rfl (show inb (nI k) 24 = true from inb_of (by omega) (by omega)) rfl d_Own_copy_308 (fun G5 hO5 => ?_)
      rw [nI_clamp (by omega)] at hO5
      have c5 := c4.put 72 k
      generalize st3 u4 72 nx k (v 72 b k) = u5 at hO5 c5
      refine ev_aload_n (k0 := 1) rfl d_Own_copy_309 ?_
      refine cv_get9 (.inr (0, off 73 nx)) hO5 vo_0 fg_Own_46_60 rfl rfl d_Own_copy_310 ?_
      refine ev_iload_n (k0 := 2) rfl d_Own_copy_313 ?_
      refine ev_aload_n (k0 := 0) rfl d_Own_copy_314 ?_
      refine cv_get9 (.inr (0, off 73 b)) (cp_src hO hO5 hb2) vo_0 fg_Own_46_60 rfl rfl d_Own_copy_315 ?_
      refine ev_iload_n (k0 := 2) rfl d_Own_copy_318 ?_
      refine cv_iald (cp_src hO hO5 hb2) (voK (by decide) (by decide)) rfl rfl (show inb (nI k) 24 = true from inb_of (by omega) (by omega)) rfl d_Own_copy_319 ?_
      refine cv_iast hO5 okO (voK (by decide) (by decide)) rfl rfl (show inb (nI k) 24 = true from inb_of (by omega) (by omega)) rfl d_Own_copy_320 (fun G6 hO6 => ?_)
      rw [nI_clamp (by omega)] at hO6
      have c6 := c5.put 73 k
      generalize st3 u5 73 nx k (v 73 b k) = u6 at hO6 c6
      refine ev_aload_n (k0 := 1) rfl d_Own_copy_321 ?_
      refine cv_get9 (.inr (0, off 74 nx)) hO6 vo_0 fg_Own_49_60 rfl rfl d_Own_copy_322 ?_
      refine ev_iload_n (k0 := 2) rfl d_Own_copy_325 ?_
      refine ev_aload_n (k0 := 0) rfl d_Own_copy_326 ?_
      refine cv_get9 (.inr (0, off 74 b)) (cp_src hO hO6 hb2) vo_0 fg_Own_49_60 rfl rfl d_Own_copy_327 ?_
      refine ev_iload_n (k0 := 2) rfl d_Own_copy_330 ?_
      refine cv_iald (cp_src hO hO6 hb2) (voK (by decide) (by decide)) rfl rfl (show inb (nI k) 24 = true from inb_of (by omega) (by omega)) rfl d_Own_copy_331 ?_
      refine cv_iast hO6 okO (voK (by decide) (by decide)) rfl rfl (show inb (nI k) 24 = true from inb_of (by omega) (by omega)) rfl d_Own_copy_332 (fun G7 hO7 => ?_)
      rw [nI_clamp (by omega)] at hO7
      have c7 := c6.put 74 k
      generalize st3 u6 74 nx k (v 74 b k) = u7 at hO7 c7
      refine ev_aload_n (k0 := 1) rfl d_Own_copy_333 ?_
      refine cv_get9 (.inr (0, off 75 nx)) hO7 vo_0 fg_Own_52_60 rfl rfl d_Own_copy_334 ?_
      refine ev_iload_n (k0 := 2) rfl d_Own_copy_337 ?_
      refine ev_aload_n (k0 := 0) rfl d_Own_copy_338 ?_
      refine cv_get9 (.inr (0, off 75 b)) (cp_src hO hO7 hb2) vo_0 fg_Own_52_60 rfl rfl d_Own_copy_339 ?_
      refine ev_iload_n (k0 := 2) rfl d_Own_copy_342 ?_
      refine cv_iald (cp_src hO hO7 hb2) (voK (by decide) (by decide)) rfl rfl (show inb (nI k) 24 = true from inb_of (by omega) (by omega)) rfl d_Own_copy_343 ?_
      refine cv_iast hO7 okO (voK (by decide) (by decide)) rfl rfl (show inb (nI k) 24 = true from inb_of (by omega) (by omega)) rfl d_Own_copy_344 (fun G8 hO8 => ?_)
      rw [nI_clamp (by omega)] at hO8
      have c8 := c7.put 75 k
      generalize st3 u7 75 nx k (v 75 b k) = u8 at hO8 c8
      refine ev_aload_n (k0 := 1) rfl d_Own_copy_345 ?_
      refine cv_get9 (.inr (0, off 76 nx)) hO8 vo_0 fg_Own_55_60 rfl rfl d_Own_copy_346 ?_
      refine ev_iload_n (k0 := 2) rfl d_Own_copy_349 ?_
      refine ev_aload_n (k0 := 0) rfl d_Own_copy_350 ?_
      refine cv_get9 (.inr (0, off 76 b)) (cp_src hO hO8 hb2) vo_0 fg_Own_55_60 rfl rfl d_Own_copy_351 ?_
      refine ev_iload_n (k0 := 2) rfl d_Own_copy_354 ?_
      refine cv_iald (cp_src hO hO8 hb2) (voK (by decide) (by decide)) rfl rfl (show inb (nI k) 24 = true from inb_of (by omega) (by omega)) rfl d_Own_copy_355 ?_
      refine cv_iast hO8 okO (voK (by decide) (by decide)) rfl rfl (show inb (nI k) 24 = true from inb_of (by omega) (by omega)) rfl d_Own_copy_356 (fun G9 hO9 => ?_)
      rw [nI_clamp (by omega)] at hO9
      have c9 := c8.put 76 k
      generalize st3 u8 76 nx k (v 76 b k) = u9 at hO9 c9
      refine ev_aload_n (k0 := 1) rfl d_Own_copy_357 ?_
      refine cv_get9 (.inr (0, off 78 nx)) hO9 vo_0 fg_Own_61_60 rfl rfl d_Own_copy_358 ?_
      refine ev_iload_n (k0 := 2) rfl d_Own_copy_361 ?_
      refine ev_aload_n (k0 := 0) rfl d_Own_copy_362 ?_
      refine cv_get9 (.inr (0, off 78 b)) (cp_src hO hO9 hb2) vo_0 fg_Own_61_60 rfl rfl d_Own_copy_363 ?_
      refine ev_iload_n (k0 := 2) rfl d_Own_copy_366 ?_
      refine cv_zald (cp_src hO hO9 hb2) (voK (by decide) (by decide)) rfl rfl (show inb (nI k) 24 = true from inb_of (by omega) (by omega)) rfl d_Own_copy_367 ?_
      refine cv_zast hO9 okO (voK (by decide) (by decide)) rfl rfl (show inb (nI k) 24 = true from inb_of (by omega) (by omega)) (by rw [nI_clamp (by omega)]; rcases hdn k (by omega) with z | z <;> rw [z] <;> rfl) rfl d_Own_copy_368 (fun G10 hO10 => ?_)
      rw [nI_clamp (by omega)] at hO10
      have c10 := c9.put 78 k
      generalize st3 u9 78 nx k (v 78 b k) = u10 at hO10 c10
      refine cw_iincN 2 1 [some (.inr (0, off 60 b)), some (.inr (0, off 60 nx)), some (.inl (.int (nI (k + 1))))] d_Own_copy_369 rfl rfl rfl rfl (by rw [show nI (k + 1) = nI k + 1 from (nI_add _ _).symm]; rfl) ?_
      refine ev_goto (tgt := 241) (by decide) d_Own_copy_372 ?_
      refine ih (k + 1) u10 G10 (by omega) hO10 (c10.mono (fun K f hd => ?_))
      rcases (show cD 8 5 k 0 0 K f ∨ ((K = 68 ∨ K = 69 ∨ K = 70 ∨ K = 71 ∨ K = 72 ∨ K = 73 ∨ K = 74 ∨ K = 75 ∨ K = 76 ∨ K = 78) ∧ f = k) by unfold cD at hd ⊢; omega) with hd | ⟨(hK | hK | hK | hK | hK | hK | hK | hK | hK | hK), hf⟩
      · exact (Or.inl (Or.inl (Or.inl (Or.inl (Or.inl (Or.inl (Or.inl (Or.inl (Or.inl (Or.inl hd))))))))))
      · exact (Or.inl (Or.inl (Or.inl (Or.inl (Or.inl (Or.inl (Or.inl (Or.inl (Or.inl (Or.inr ⟨hK, hf⟩))))))))))
      · exact (Or.inl (Or.inl (Or.inl (Or.inl (Or.inl (Or.inl (Or.inl (Or.inl (Or.inr ⟨hK, hf⟩)))))))))
      · exact (Or.inl (Or.inl (Or.inl (Or.inl (Or.inl (Or.inl (Or.inl (Or.inr ⟨hK, hf⟩))))))))
      · exact (Or.inl (Or.inl (Or.inl (Or.inl (Or.inl (Or.inl (Or.inr ⟨hK, hf⟩)))))))
      · exact (Or.inl (Or.inl (Or.inl (Or.inl (Or.inl (Or.inr ⟨hK, hf⟩))))))
      · exact (Or.inl (Or.inl (Or.inl (Or.inl (Or.inr ⟨hK, hf⟩)))))
      · exact (Or.inl (Or.inl (Or.inl (Or.inr ⟨hK, hf⟩))))
      · exact (Or.inl (Or.inl (Or.inr ⟨hK, hf⟩)))
      · exact (Or.inl (Or.inr ⟨hK, hf⟩))
      · exact (Or.inr ⟨hK, hf⟩)
  have L2 : ∀ j k u Gi, k + j = 5 → LM (vo nx) nx (nx + 21) u G Gi → CPd b nx v (cD 8 k 0 0 0) u → Ev g (d + 1) m_Own_copy 168 [some (.inr (0, off 60 b)), some (.inr (0, off 60 nx)), some (.inl (.int (nI k)))] [] (Gi, nx + 21) 0 0 (fun r M' => r = .inr (some (.inr (0, off 60 nx))) ∧ M'.2 = nx + 21 ∧ ∃ u, LM (vo nx) nx (nx + 21) u G M'.1 ∧ CPd b nx v (cD 8 5 n w t) u) := by
    intro j
    induction j with
    | zero =>
      intro k u Gi hk h0 c0
      refine ev_iload_n (k0 := 2) rfl d_Own_copy_168 ?_
      refine cw_iconst 5 d_Own_copy_169 rfl ?_
      refine ev_icmp_ge (tgt := 239) (by decide) d_Own_copy_170 (fun _ => ?_) (fun c => absurd (show nI 5 ≤ nI k from nI_le (by omega) (by omega)) c)
      obtain rfl : k = 5 := by omega
      refine cw_iconst 0 d_Own_copy_239 rfl ?_
      refine cw_istoreN_n 2 (nI 0) rfl [some (.inr (0, off 60 b)), some (.inr (0, off 60 nx)), some (.inl (.int (nI 0)))] d_Own_copy_240 rfl rfl rfl ?_
      exact L3 _ 0 u Gi (Nat.zero_add _) h0 (c0.mono (fun K f hd => by unfold cD at hd ⊢; omega))
    | succ j ih =>
      intro k u Gi hk h0 c0
      refine ev_iload_n (k0 := 2) rfl d_Own_copy_168 ?_
      refine cw_iconst 5 d_Own_copy_169 rfl ?_
      refine ev_icmp_ge (tgt := 239) (by decide) d_Own_copy_170 (fun c => absurd (show nI 5 ≤ nI k from c) (nI_ge (by omega) (by omega))) (fun _ => ?_)
      refine ev_aload_n (k0 := 1) rfl d_Own_copy_173 ?_
      refine cv_get9 (.inr (0, off 63 nx)) h0 vo_0 fg_Own_16_60 rfl rfl d_Own_copy_174 ?_
      refine ev_iload_n (k0 := 2) rfl d_Own_copy_177 ?_
      refine ev_aload_n (k0 := 0) rfl d_Own_copy_178 ?_
      refine cv_get9 (.inr (0, off 63 b)) (cp_src hO h0 hb2) vo_0 fg_Own_16_60 rfl rfl d_Own_copy_179 ?_
      refine ev_iload_n (k0 := 2) rfl d_Own_copy_182 ?_
      refine cv_iald (cp_src hO h0 hb2) (voK (by decide) (by decide)) rfl rfl (show inb (nI k) 5 = true from inb_of (by omega) (by omega)) rfl d_Own_copy_183 ?_
      refine cv_iast h0 okO (voK (by decide) (by decide)) rfl rfl (show inb (nI k) 5 = true from inb_of (by omega) (by omega)) rfl d_Own_copy_184 (fun G1 hO1 => ?_)
      rw [nI_clamp (by omega)] at hO1
      have c1 := c0.put 63 k
      generalize st3 u 63 nx k (v 63 b k) = u1 at hO1 c1
      refine ev_aload_n (k0 := 1) rfl d_Own_copy_185 ?_
      refine cv_get9 (.inr (0, off 64 nx)) hO1 vo_0 fg_Own_19_60 rfl rfl d_Own_copy_186 ?_
      refine ev_iload_n (k0 := 2) rfl d_Own_copy_189 ?_
      refine ev_aload_n (k0 := 0) rfl d_Own_copy_190 ?_
      refine cv_get9 (.inr (0, off 64 b)) (cp_src hO hO1 hb2) vo_0 fg_Own_19_60 rfl rfl d_Own_copy_191 ?_
      refine ev_iload_n (k0 := 2) rfl d_Own_copy_194 ?_
      refine cv_iald (cp_src hO hO1 hb2) (voK (by decide) (by decide)) rfl rfl (show inb (nI k) 5 = true from inb_of (by omega) (by omega)) rfl d_Own_copy_195 ?_
      refine cv_iast hO1 okO (voK (by decide) (by decide)) rfl rfl (show inb (nI k) 5 = true from inb_of (by omega) (by omega)) rfl d_Own_copy_196 (fun G2 hO2 => ?_)
      rw [nI_clamp (by omega)] at hO2
      have c2 := c1.put 64 k
      generalize st3 u1 64 nx k (v 64 b k) = u2 at hO2 c2
      refine ev_aload_n (k0 := 1) rfl d_Own_copy_197 ?_
      refine cv_get9 (.inr (0, off 65 nx)) hO2 vo_0 fg_Own_22_60 rfl rfl d_Own_copy_198 ?_
      refine ev_iload_n (k0 := 2) rfl d_Own_copy_201 ?_
      refine ev_aload_n (k0 := 0) rfl d_Own_copy_202 ?_
      refine cv_get9 (.inr (0, off 65 b)) (cp_src hO hO2 hb2) vo_0 fg_Own_22_60 rfl rfl d_Own_copy_203 ?_
      refine ev_iload_n (k0 := 2) rfl d_Own_copy_206 ?_
      refine cv_iald (cp_src hO hO2 hb2) (voK (by decide) (by decide)) rfl rfl (show inb (nI k) 5 = true from inb_of (by omega) (by omega)) rfl d_Own_copy_207 ?_
      refine cv_iast hO2 okO (voK (by decide) (by decide)) rfl rfl (show inb (nI k) 5 = true from inb_of (by omega) (by omega)) rfl d_Own_copy_208 (fun G3 hO3 => ?_)
      rw [nI_clamp (by omega)] at hO3
      have c3 := c2.put 65 k
      generalize st3 u2 65 nx k (v 65 b k) = u3 at hO3 c3
      refine ev_aload_n (k0 := 1) rfl d_Own_copy_209 ?_
      refine cv_get9 (.inr (0, off 66 nx)) hO3 vo_0 fg_Own_25_60 rfl rfl d_Own_copy_210 ?_
      refine ev_iload_n (k0 := 2) rfl d_Own_copy_213 ?_
      refine ev_aload_n (k0 := 0) rfl d_Own_copy_214 ?_
      refine cv_get9 (.inr (0, off 66 b)) (cp_src hO hO3 hb2) vo_0 fg_Own_25_60 rfl rfl d_Own_copy_215 ?_
      refine ev_iload_n (k0 := 2) rfl d_Own_copy_218 ?_
      refine cv_iald (cp_src hO hO3 hb2) (voK (by decide) (by decide)) rfl rfl (show inb (nI k) 5 = true from inb_of (by omega) (by omega)) rfl d_Own_copy_219 ?_
      refine cv_iast hO3 okO (voK (by decide) (by decide)) rfl rfl (show inb (nI k) 5 = true from inb_of (by omega) (by omega)) rfl d_Own_copy_220 (fun G4 hO4 => ?_)
      rw [nI_clamp (by omega)] at hO4
      have c4 := c3.put 66 k
      generalize st3 u3 66 nx k (v 66 b k) = u4 at hO4 c4
      refine ev_aload_n (k0 := 1) rfl d_Own_copy_221 ?_
      refine cv_get9 (.inr (0, off 67 nx)) hO4 vo_0 fg_Own_28_60 rfl rfl d_Own_copy_222 ?_
      refine ev_iload_n (k0 := 2) rfl d_Own_copy_225 ?_
      refine ev_aload_n (k0 := 0) rfl d_Own_copy_226 ?_
      refine cv_get9 (.inr (0, off 67 b)) (cp_src hO hO4 hb2) vo_0 fg_Own_28_60 rfl rfl d_Own_copy_227 ?_
      refine ev_iload_n (k0 := 2) rfl d_Own_copy_230 ?_
      refine cv_iald (cp_src hO hO4 hb2) (voK (by decide) (by decide)) rfl rfl (show inb (nI k) 5 = true from inb_of (by omega) (by omega)) rfl d_Own_copy_231 ?_
      refine cv_iast hO4 okO (voK (by decide) (by decide)) rfl rfl (show inb (nI k) 5 = true from inb_of (by omega) (by omega)) rfl d_Own_copy_232 (fun G5 hO5 => ?_)
      rw [nI_clamp (by omega)] at hO5
      have c5 := c4.put 67 k
      generalize st3 u4 67 nx k (v 67 b k) = u5 at hO5 c5
      refine cw_iincN 2 1 [some (.inr (0, off 60 b)), some (.inr (0, off 60 nx)), some (.inl (.int (nI (k + 1))))] d_Own_copy_233 rfl rfl rfl rfl (by rw [show nI (k + 1) = nI k + 1 from (nI_add _ _).symm]; rfl) ?_
      refine ev_goto (tgt := 168) (by decide) d_Own_copy_236 ?_
      refine ih (k + 1) u5 G5 (by omega) hO5 (c5.mono (fun K f hd => ?_))
      rcases (show cD 8 k 0 0 0 K f ∨ ((K = 63 ∨ K = 64 ∨ K = 65 ∨ K = 66 ∨ K = 67) ∧ f = k) by unfold cD at hd ⊢; omega) with hd | ⟨(hK | hK | hK | hK | hK), hf⟩
      · exact (Or.inl (Or.inl (Or.inl (Or.inl (Or.inl hd)))))
      · exact (Or.inl (Or.inl (Or.inl (Or.inl (Or.inr ⟨hK, hf⟩)))))
      · exact (Or.inl (Or.inl (Or.inl (Or.inr ⟨hK, hf⟩))))
      · exact (Or.inl (Or.inl (Or.inr ⟨hK, hf⟩)))
      · exact (Or.inl (Or.inr ⟨hK, hf⟩))
      · exact (Or.inr ⟨hK, hf⟩)
  have L1 : ∀ j k u Gi, k + j = 8 → LM (vo nx) nx (nx + 21) u G Gi → CPd b nx v (cD k 0 0 0 0) u → Ev g (d + 1) m_Own_copy 130 [some (.inr (0, off 60 b)), some (.inr (0, off 60 nx)), some (.inl (.int (nI k)))] [] (Gi, nx + 21) 0 0 (fun r M' => r = .inr (some (.inr (0, off 60 nx))) ∧ M'.2 = nx + 21 ∧ ∃ u, LM (vo nx) nx (nx + 21) u G M'.1 ∧ CPd b nx v (cD 8 5 n w t) u) := by
    intro j
    induction j with
    | zero =>
      intro k u Gi hk h0 c0
      refine ev_iload_n (k0 := 2) rfl d_Own_copy_130 ?_
      refine cw_bipush 8 d_Own_copy_131 rfl ?_
      refine ev_icmp_ge (tgt := 166) (by decide) d_Own_copy_133 (fun _ => ?_) (fun c => absurd (show nI 8 ≤ nI k from nI_le (by omega) (by omega)) c)
      obtain rfl : k = 8 := by omega
      refine cw_iconst 0 d_Own_copy_166 rfl ?_
      refine cw_istoreN_n 2 (nI 0) rfl [some (.inr (0, off 60 b)), some (.inr (0, off 60 nx)), some (.inl (.int (nI 0)))] d_Own_copy_167 rfl rfl rfl ?_
      exact L2 _ 0 u Gi (Nat.zero_add _) h0 (c0.mono (fun K f hd => by unfold cD at hd ⊢; omega))
    | succ j ih =>
      intro k u Gi hk h0 c0
      refine ev_iload_n (k0 := 2) rfl d_Own_copy_130 ?_
      refine cw_bipush 8 d_Own_copy_131 rfl ?_
      refine ev_icmp_ge (tgt := 166) (by decide) d_Own_copy_133 (fun c => absurd (show nI 8 ≤ nI k from c) (nI_ge (by omega) (by omega))) (fun _ => ?_)
      refine ev_aload_n (k0 := 1) rfl d_Own_copy_136 ?_
      refine cv_get9 (.inr (0, off 61 nx)) h0 vo_0 fg_Own_7_60 rfl rfl d_Own_copy_137 ?_
      refine ev_iload_n (k0 := 2) rfl d_Own_copy_140 ?_
      refine ev_aload_n (k0 := 0) rfl d_Own_copy_141 ?_
      refine cv_get9 (.inr (0, off 61 b)) (cp_src hO h0 hb2) vo_0 fg_Own_7_60 rfl rfl d_Own_copy_142 ?_
      refine ev_iload_n (k0 := 2) rfl d_Own_copy_145 ?_
      refine cv_iald (cp_src hO h0 hb2) (voK (by decide) (by decide)) rfl rfl (show inb (nI k) 8 = true from inb_of (by omega) (by omega)) rfl d_Own_copy_146 ?_
      refine cv_iast h0 okO (voK (by decide) (by decide)) rfl rfl (show inb (nI k) 8 = true from inb_of (by omega) (by omega)) rfl d_Own_copy_147 (fun G1 hO1 => ?_)
      rw [nI_clamp (by omega)] at hO1
      have c1 := c0.put 61 k
      generalize st3 u 61 nx k (v 61 b k) = u1 at hO1 c1
      refine ev_aload_n (k0 := 1) rfl d_Own_copy_148 ?_
      refine cv_get9 (.inr (0, off 62 nx)) hO1 vo_0 fg_Own_13_60 rfl rfl d_Own_copy_149 ?_
      refine ev_iload_n (k0 := 2) rfl d_Own_copy_152 ?_
      refine ev_aload_n (k0 := 0) rfl d_Own_copy_153 ?_
      refine cv_get9 (.inr (0, off 62 b)) (cp_src hO hO1 hb2) vo_0 fg_Own_13_60 rfl rfl d_Own_copy_154 ?_
      refine ev_iload_n (k0 := 2) rfl d_Own_copy_157 ?_
      refine cv_iald (cp_src hO hO1 hb2) (voK (by decide) (by decide)) rfl rfl (show inb (nI k) 8 = true from inb_of (by omega) (by omega)) rfl d_Own_copy_158 ?_
      refine cv_iast hO1 okO (voK (by decide) (by decide)) rfl rfl (show inb (nI k) 8 = true from inb_of (by omega) (by omega)) rfl d_Own_copy_159 (fun G2 hO2 => ?_)
      rw [nI_clamp (by omega)] at hO2
      have c2 := c1.put 62 k
      generalize st3 u1 62 nx k (v 62 b k) = u2 at hO2 c2
      refine cw_iincN 2 1 [some (.inr (0, off 60 b)), some (.inr (0, off 60 nx)), some (.inl (.int (nI (k + 1))))] d_Own_copy_160 rfl rfl rfl rfl (by rw [show nI (k + 1) = nI k + 1 from (nI_add _ _).symm]; rfl) ?_
      refine ev_goto (tgt := 130) (by decide) d_Own_copy_163 ?_
      refine ih (k + 1) u2 G2 (by omega) hO2 (c2.mono (fun K f hd => ?_))
      rcases (show cD k 0 0 0 0 K f ∨ ((K = 61 ∨ K = 62) ∧ f = k) by unfold cD at hd ⊢; omega) with hd | ⟨(hK | hK), hf⟩
      · exact (Or.inl (Or.inl hd))
      · exact (Or.inl (Or.inr ⟨hK, hf⟩))
      · exact (Or.inr ⟨hK, hf⟩)
  refine Ev.room (mc := 20 + 0 + 1) (ms := 425 + 0 + 35) (ev_new (M := (G, nx)) coC_13 cl_Own_8 in_Own ii_Own d_Own_copy_0 ?_) (by omega) (by omega)
  refine ev_dup rfl d_Own_copy_3 ?_
  refine ev_invI (d := d) (mi := m_Own_copy) (pc := 4) (st := [.inr (0, nx)]) (mc := 0) (ms := 0) (r := (0, nx)) (vs := []) lj_Own_71 (M_Own_init d wrG_S) rfl (Nat.le_of_ble_eq_true rfl) d_Own_copy_4 ⟨fun w9 M9 hP => ?_, fun E9 M9 hP => by obtain ⟨hv, -⟩ := hP; cases hv⟩
  obtain ⟨hw9, p1, p2⟩ := hP
  cases hw9
  obtain ⟨G0, nx0⟩ := M9
  replace p1 : nx0 = nx + 21 := p1
  subst p1
  have h0 : LM (vo nx) nx (nx + 21) z0M G G0 := ⟨p2.1, fun o ho => (p2.2 o ho).trans (wrG_N (by omega))⟩
  have c0 : CPd b nx v (fun _ _ => False) z0M := fun _ _ h => h.elim
  show Ev g (d + 1) m_Own_copy 7 [some (.inr (0, off 60 b)), none, none] [.inr (0, off 60 nx)] (G0, nx + 21) 0 0 _
  refine cw_astoreN_n 1 [some (.inr (0, off 60 b)), some (.inr (0, off 60 nx)), none] d_Own_copy_7 rfl rfl rfl ?_
  refine ev_aload_n (k0 := 1) rfl d_Own_copy_8 ?_
  refine ev_aload_n (k0 := 0) rfl d_Own_copy_9 ?_
  refine cv_get9 (.inl (.int (v 60 b 0))) (cp_src hO h0 hb2) vo_0 fg_Own_72_60 rfl rfl d_Own_copy_10 ?_
  refine cv_put (.inl (.int (v 60 b 0))) (v 60 b 0) h0 okO vo_0 fl_Own_72_60 rfl rfl okv_int d_Own_copy_13 ?_
  intro G1 h1
  have c1 := c0.put 60 0
  generalize st3 z0M 60 nx 0 (v 60 b 0) = u1 at h1 c1
  refine ev_aload_n (k0 := 1) rfl d_Own_copy_16 ?_
  refine ev_aload_n (k0 := 0) rfl d_Own_copy_17 ?_
  refine cv_get9 (.inl (.int (v 60 b 1))) (cp_src hO h1 hb2) vo_0 fg_Own_76_60 rfl rfl d_Own_copy_18 ?_
  refine cv_put (.inl (.int (v 60 b 1))) (v 60 b 1) h1 okO vo_0 fl_Own_76_60 rfl rfl okv_int d_Own_copy_21 ?_
  intro G2 h2
  have c2 := c1.put 60 1
  generalize st3 u1 60 nx 1 (v 60 b 1) = u2 at h2 c2
  refine ev_aload_n (k0 := 1) rfl d_Own_copy_24 ?_
  refine ev_aload_n (k0 := 0) rfl d_Own_copy_25 ?_
  refine cv_get9 (.inl (.int (v 60 b 2))) (cp_src hO h2 hb2) vo_0 fg_Own_79_60 rfl rfl d_Own_copy_26 ?_
  refine cv_put (.inl (.int (v 60 b 2))) (v 60 b 2) h2 okO vo_0 fl_Own_79_60 rfl rfl okv_int d_Own_copy_29 ?_
  intro G3 h3
  have c3 := c2.put 60 2
  generalize st3 u2 60 nx 2 (v 60 b 2) = u3 at h3 c3
  refine ev_aload_n (k0 := 1) rfl d_Own_copy_32 ?_
  refine ev_aload_n (k0 := 0) rfl d_Own_copy_33 ?_
  refine cv_get9 (.inl (.int (v 60 b 3))) (cp_src hO h3 hb2) vo_0 fg_Own_82_60 rfl rfl d_Own_copy_34 ?_
  refine cv_put (.inl (.int (v 60 b 3))) (v 60 b 3) h3 okO vo_0 fl_Own_82_60 rfl rfl okv_int d_Own_copy_37 ?_
  intro G4 h4
  have c4 := c3.put 60 3
  generalize st3 u3 60 nx 3 (v 60 b 3) = u4 at h4 c4
  refine ev_aload_n (k0 := 1) rfl d_Own_copy_40 ?_
  refine ev_aload_n (k0 := 0) rfl d_Own_copy_41 ?_
  refine cv_get9 (.inl (.int (v 60 b 4))) (cp_src hO h4 hb2) vo_0 fg_Own_85_60 rfl rfl d_Own_copy_42 ?_
  refine cv_put (.inl (.int (v 60 b 4))) (v 60 b 4) h4 okO vo_0 fl_Own_85_60 rfl rfl okv_int d_Own_copy_45 ?_
  intro G5 h5
  have c5 := c4.put 60 4
  generalize st3 u4 60 nx 4 (v 60 b 4) = u5 at h5 c5
  refine ev_aload_n (k0 := 1) rfl d_Own_copy_48 ?_
  refine ev_aload_n (k0 := 0) rfl d_Own_copy_49 ?_
  refine cv_get9 (.inl (.int (v 60 b 5))) (cp_src hO h5 hb2) vo_0 fg_Own_88_60 rfl rfl d_Own_copy_50 ?_
  refine cv_put (.inl (.int (v 60 b 5))) (v 60 b 5) h5 okO vo_0 fl_Own_88_60 rfl rfl okv_int d_Own_copy_53 ?_
  intro G6 h6
  have c6 := c5.put 60 5
  generalize st3 u5 60 nx 5 (v 60 b 5) = u6 at h6 c6
  refine ev_aload_n (k0 := 1) rfl d_Own_copy_56 ?_
  refine ev_aload_n (k0 := 0) rfl d_Own_copy_57 ?_
  refine cv_get9 (.inl (.int (v 60 b 6))) (cp_src hO h6 hb2) vo_0 fg_Own_91_60 rfl rfl d_Own_copy_58 ?_
  refine cv_put (.inl (.int (v 60 b 6))) (v 60 b 6) h6 okO vo_0 fl_Own_91_60 rfl rfl okv_int d_Own_copy_61 ?_
  intro G7 h7
  have c7 := c6.put 60 6
  generalize st3 u6 60 nx 6 (v 60 b 6) = u7 at h7 c7
  refine ev_aload_n (k0 := 1) rfl d_Own_copy_64 ?_
  refine ev_aload_n (k0 := 0) rfl d_Own_copy_65 ?_
  refine cv_get9 (.inl (.int (v 60 b 7))) (cp_src hO h7 hb2) vo_0 fg_Own_94_60 rfl rfl d_Own_copy_66 ?_
  refine cv_put (.inl (.int (v 60 b 7))) (v 60 b 7) h7 okO vo_0 fl_Own_94_60 rfl rfl okv_int d_Own_copy_69 ?_
  intro G8 h8
  have c8 := c7.put 60 7
  generalize st3 u7 60 nx 7 (v 60 b 7) = u8 at h8 c8
  refine ev_aload_n (k0 := 1) rfl d_Own_copy_72 ?_
  refine ev_aload_n (k0 := 0) rfl d_Own_copy_73 ?_
  refine cv_get9 (.inl (.int (v 60 b 8))) (cp_src hO h8 hb2) vo_0 fg_Own_97_60 rfl rfl d_Own_copy_74 ?_
  refine cv_put (.inl (.int (v 60 b 8))) (v 60 b 8) h8 okO vo_0 fl_Own_97_60 rfl rfl okv_int d_Own_copy_77 ?_
  intro G9 h9
  have c9 := c8.put 60 8
  generalize st3 u8 60 nx 8 (v 60 b 8) = u9 at h9 c9
  refine ev_aload_n (k0 := 1) rfl d_Own_copy_80 ?_
  refine ev_aload_n (k0 := 0) rfl d_Own_copy_81 ?_
  refine cv_get9 (.inl (.int (v 60 b 9))) (cp_src hO h9 hb2) vo_0 fg_Own_100_60 rfl rfl d_Own_copy_82 ?_
  refine cv_put (.inl (.int (v 60 b 9))) (v 60 b 9) h9 okO vo_0 fl_Own_100_60 rfl rfl okv_int d_Own_copy_85 ?_
  intro G10 h10
  have c10 := c9.put 60 9
  generalize st3 u9 60 nx 9 (v 60 b 9) = u10 at h10 c10
  refine ev_aload_n (k0 := 1) rfl d_Own_copy_88 ?_
  refine ev_aload_n (k0 := 0) rfl d_Own_copy_89 ?_
  refine cv_get9 (.inl (.int (v 60 b 10))) (cp_src hO h10 hb2) vo_0 fg_Own_103_60 rfl rfl d_Own_copy_90 ?_
  refine cv_put (.inl (.int (v 60 b 10))) (v 60 b 10) h10 okO vo_0 fl_Own_103_60 rfl rfl okv_int d_Own_copy_93 ?_
  intro G11 h11
  have c11 := c10.put 60 10
  generalize st3 u10 60 nx 10 (v 60 b 10) = u11 at h11 c11
  refine ev_aload_n (k0 := 1) rfl d_Own_copy_96 ?_
  refine ev_aload_n (k0 := 0) rfl d_Own_copy_97 ?_
  refine cv_get9 (.inl (.int (v 60 b 11))) (cp_src hO h11 hb2) vo_0 fg_Own_106_60 rfl rfl d_Own_copy_98 ?_
  refine cv_put (.inl (.int (v 60 b 11))) (v 60 b 11) h11 okO vo_0 fl_Own_106_60 rfl rfl okv_int d_Own_copy_101 ?_
  intro G12 h12
  have c12 := c11.put 60 11
  generalize st3 u11 60 nx 11 (v 60 b 11) = u12 at h12 c12
  refine ev_aload_n (k0 := 1) rfl d_Own_copy_104 ?_
  refine ev_aload_n (k0 := 0) rfl d_Own_copy_105 ?_
  refine cv_get9 (.inl (.int (v 60 b 12))) (cp_src hO h12 hb2) vo_0 fg_Own_109_60 rfl rfl d_Own_copy_106 ?_
  refine cv_put (.inl (.int (v 60 b 12))) (v 60 b 12) h12 okO vo_0 fl_Own_109_60 rfl rfl okv_int d_Own_copy_109 ?_
  intro G13 h13
  have c13 := c12.put 60 12
  generalize st3 u12 60 nx 12 (v 60 b 12) = u13 at h13 c13
  refine ev_aload_n (k0 := 1) rfl d_Own_copy_112 ?_
  refine ev_aload_n (k0 := 0) rfl d_Own_copy_113 ?_
  refine cv_get9 (.inl (.int (v 60 b 13))) (cp_src hO h13 hb2) vo_0 fg_Own_112_60 rfl rfl d_Own_copy_114 ?_
  refine cv_put (.inl (.int (v 60 b 13))) (v 60 b 13) h13 okO vo_0 fl_Own_112_60 rfl rfl okv_int d_Own_copy_117 ?_
  intro G14 h14
  have c14 := c13.put 60 13
  generalize st3 u13 60 nx 13 (v 60 b 13) = u14 at h14 c14
  refine ev_aload_n (k0 := 1) rfl d_Own_copy_120 ?_
  refine ev_aload_n (k0 := 0) rfl d_Own_copy_121 ?_
  refine cv_get9 (.inl (.int (v 60 b 14))) (cp_src hO h14 hb2) vo_0 fg_Own_115_60 rfl rfl d_Own_copy_122 ?_
  refine cv_put (.inl (.int (v 60 b 14))) (v 60 b 14) h14 okO vo_0 fl_Own_115_60 rfl rfl okv_int d_Own_copy_125 ?_
  intro G15 h15
  have c15 := c14.put 60 14
  generalize st3 u14 60 nx 14 (v 60 b 14) = u15 at h15 c15
  refine cw_iconst 0 d_Own_copy_128 rfl ?_
  refine cw_istoreN_n 2 (nI 0) rfl [some (.inr (0, off 60 b)), some (.inr (0, off 60 nx)), some (.inl (.int (nI 0)))] d_Own_copy_129 rfl rfl rfl ?_
  refine L1 8 0 u15 G15 (by omega) h15 (c15.mono (fun K f hd => ?_))
  have hK : K = 60 := by unfold cD at hd; omega
  rcases (show f = 0 ∨ f = 1 ∨ f = 2 ∨ f = 3 ∨ f = 4 ∨ f = 5 ∨ f = 6 ∨ f = 7 ∨ f = 8 ∨ f = 9 ∨ f = 10 ∨ f = 11 ∨ f = 12 ∨ f = 13 ∨ f = 14 by unfold cD at hd; omega) with hf | hf | hf | hf | hf | hf | hf | hf | hf | hf | hf | hf | hf | hf | hf
  · exact (Or.inl (Or.inl (Or.inl (Or.inl (Or.inl (Or.inl (Or.inl (Or.inl (Or.inl (Or.inl (Or.inl (Or.inl (Or.inl (Or.inl (Or.inr ⟨hK, hf⟩)))))))))))))))
  · exact (Or.inl (Or.inl (Or.inl (Or.inl (Or.inl (Or.inl (Or.inl (Or.inl (Or.inl (Or.inl (Or.inl (Or.inl (Or.inl (Or.inr ⟨hK, hf⟩))))))))))))))
  · exact (Or.inl (Or.inl (Or.inl (Or.inl (Or.inl (Or.inl (Or.inl (Or.inl (Or.inl (Or.inl (Or.inl (Or.inl (Or.inr ⟨hK, hf⟩)))))))))))))
  · exact (Or.inl (Or.inl (Or.inl (Or.inl (Or.inl (Or.inl (Or.inl (Or.inl (Or.inl (Or.inl (Or.inl (Or.inr ⟨hK, hf⟩))))))))))))
  · exact (Or.inl (Or.inl (Or.inl (Or.inl (Or.inl (Or.inl (Or.inl (Or.inl (Or.inl (Or.inl (Or.inr ⟨hK, hf⟩)))))))))))
  · exact (Or.inl (Or.inl (Or.inl (Or.inl (Or.inl (Or.inl (Or.inl (Or.inl (Or.inl (Or.inr ⟨hK, hf⟩))))))))))
  · exact (Or.inl (Or.inl (Or.inl (Or.inl (Or.inl (Or.inl (Or.inl (Or.inl (Or.inr ⟨hK, hf⟩)))))))))
  · exact (Or.inl (Or.inl (Or.inl (Or.inl (Or.inl (Or.inl (Or.inl (Or.inr ⟨hK, hf⟩))))))))
  · exact (Or.inl (Or.inl (Or.inl (Or.inl (Or.inl (Or.inl (Or.inr ⟨hK, hf⟩)))))))
  · exact (Or.inl (Or.inl (Or.inl (Or.inl (Or.inl (Or.inr ⟨hK, hf⟩))))))
  · exact (Or.inl (Or.inl (Or.inl (Or.inl (Or.inr ⟨hK, hf⟩)))))
  · exact (Or.inl (Or.inl (Or.inl (Or.inr ⟨hK, hf⟩))))
  · exact (Or.inl (Or.inl (Or.inr ⟨hK, hf⟩)))
  · exact (Or.inl (Or.inr ⟨hK, hf⟩))
  · exact (Or.inr ⟨hK, hf⟩)
end Copy

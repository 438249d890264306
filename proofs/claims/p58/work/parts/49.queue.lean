/-! The class's output: writeQueue, outputByte. -/
theorem vc90 : vc 9 0 := (by decide : (0 : Nat) < 12)
section Queue
variable {g : GL} {F G : RG} {nx : Nat} {μ : Mem} {f : Nat → Nat} {w : Nat}
set_option maxRecDepth 100000 in
theorem wq_loop (d : Nat) (hD : DG g) (hG : LM vc 0 535 μ F G) (hn : 548 ≤ nx) (hn2 : nx + 60 < 2 ^ 31) (hw : w ≤ 24) (h8 : μ 9 0 8 = nI w) (hf : ∀ k, k < w → f k < 24 ∧ μ 30 0 k = nI (f k)) : ∀ k i M, i + k = w → BI 71 G nx nx (2 + 2 * i) (qtx f i) M → Ev g (d + 6) m_P_writeQueue 10 [some (.inr (0, off 12 0)), some (.inr (0, nx)), some (.inl (.int (nI i)))] [] M (2 * k + 2) (284 * k + 146) (pWr G nx 50 μ (qtx f w)) := by
  intro k
  induction k with
  | zero =>
    intro i M hi hb
    obtain rfl : i = w := by omega
    obtain ⟨G1, nx1⟩ := M
    have g1 : LM vc 0 535 μ G1 G1 := hb.lm (by omega) hG
    refine ev_iload_n (k0 := 2) rfl d_P_writeQueue_10 ?_
    refine ev_aload_n (k0 := 0) rfl d_P_writeQueue_11 ?_
    refine cv_get9 (.inr (0, off 9 0)) g1 v_12 fg_ProphecyShop_47_12 rfl rfl d_P_writeQueue_12 ?_
    refine cv_get9 (.inl (.int (μ 9 0 8))) g1 vc90 fg_ProphecyShop_237_9 rfl rfl d_P_writeQueue_15 ?_
    rw [h8]
    refine ev_icmp_ge (tgt := 51) (by decide) d_P_writeQueue_18 (fun _ => ?_) (fun z => absurd (nI_le (Nat.le_refl _) (by omega)) z)
    refine ev_aload_n (k0 := 0) rfl d_P_writeQueue_51 ?_
    refine ev_aload_n (k0 := 1) rfl d_P_writeQueue_52 ?_
    exact Ev.room (wr_end (d := d) rfl rfl hG hn (hb.le (b' := 50) (by omega)) (by omega) rfl d_P_writeQueue_53 d_P_writeQueue_56 d_P_writeQueue_59 d_P_writeQueue_60 d_P_writeQueue_63 d_P_writeQueue_66) (by omega) (by omega)
  | succ k ih =>
    intro i M hi hb
    have hlen : (qtx f i).length ≤ 3 * i - 1 := qtx_len1 (fun k hk => (hf k (by omega)).1)
    obtain ⟨G1, nx1⟩ := M
    have g1 : LM vc 0 535 μ G1 G1 := hb.lm (by omega) hG
    refine ev_iload_n (k0 := 2) rfl d_P_writeQueue_10 ?_
    refine ev_aload_n (k0 := 0) rfl d_P_writeQueue_11 ?_
    refine cv_get9 (.inr (0, off 9 0)) g1 v_12 fg_ProphecyShop_47_12 rfl rfl d_P_writeQueue_12 ?_
    refine cv_get9 (.inl (.int (μ 9 0 8))) g1 vc90 fg_ProphecyShop_237_9 rfl rfl d_P_writeQueue_15 ?_
    rw [h8]
    refine ev_icmp_ge (tgt := 51) (by decide) d_P_writeQueue_18 (fun z => absurd z (nI_ge (show i < w by omega) (by omega))) (fun _ => ?_)
    refine ev_iload_n (k0 := 2) rfl d_P_writeQueue_21 ?_
    have K : ∀ M2, BI 71 G nx nx (2 + 2 * i + 1) (qtx f i ++ (if i = 0 then [] else [44])) M2 → Ev g (d + 6) m_P_writeQueue 32 [some (.inr (0, off 12 0)), some (.inr (0, nx)), some (.inl (.int (nI i)))] [] M2 (2 * k + 3) (284 * k + 288) (pWr G nx 50 μ (qtx f w)) := by
      intro M2 b2
      obtain ⟨G2, nx2⟩ := M2
      have g2 : LM vc 0 535 μ G2 G2 := b2.lm (by omega) hG
      have hfi := hf i (by omega)
      have hd := dl_24 hfi.1
      have hl2 : (qtx f i ++ (if i = 0 then [] else [44])).length ≤ 3 * i := by
        rw [List.length_append]
        by_cases e : i = 0
        · subst e
          exact Nat.le_refl _
        · rw [if_neg e]
          show _ + 1 ≤ _
          omega
      have hr : f_Shop_requestAt 0 (nI i) μ = some (nI (f i)) := by
        unfold f_Shop_requestAt
        rw [if_neg (show ¬ nI i < 0 from nI_nlt (b := 0) (by omega) (by omega)), h8, if_neg (nI_ge (show i < w by omega) (by omega)), if_neg (show ¬ (24 : Int32) ≤ nI i from nI_ge (b := 24) (by omega) (by omega)), chk_of (inb_of (by omega) (by omega)), nI_clamp (by omega), hfi.2]
      refine ev_aload_n (k0 := 1) rfl d_P_writeQueue_32 ?_
      refine ev_aload_n (k0 := 0) rfl d_P_writeQueue_33 ?_
      refine cv_get9 (.inr (0, off 9 0)) g2 v_12 fg_ProphecyShop_47_12 rfl rfl d_P_writeQueue_34 ?_
      refine ev_iload_n (k0 := 2) rfl d_P_writeQueue_37 ?_
      refine Ev.z9 (cv_V (d := d + 5) [.inl (.int (nI i))] g2 vc90 rfl lk_ProphecyShop_345 (w_Shop_requestAt (d + 5) vc90 g2 hr) rfl rfl d_P_writeQueue_38 (aft_ro ?_))
      refine Ev.room (mc := 1 + (2 * k + 2)) (ms := 142 + (284 * k + 146)) (ev_appI hD b2 lj_ProphecyShop_338_1 (by omega) (by omega) rfl d_P_writeQueue_41 (fun M3 b3 => ?_)) (by omega) (by omega)
      refine ev_pop rfl d_P_writeQueue_44 ?_
      refine cw_iincN 2 1 [some (.inr (0, off 12 0)), some (.inr (0, nx)), some (.inl (.int (nI (i + 1))))] d_P_writeQueue_45 rfl rfl rfl rfl (by rw [nI_1]; rfl) ?_
      refine ev_goto (tgt := 10) (by decide) d_P_writeQueue_48 ?_
      exact ih (i + 1) M3 (by omega) (b3.le (by omega))
    refine ev_if_le (tgt := 32) (by decide) d_P_writeQueue_22 (fun c => ?_) (fun c => ?_)
    · have e : i = 0 := by
        by_cases e : i = 0
        · exact e
        · exact absurd c (show ¬ nI i ≤ 0 from nI_ge (a := 0) (by omega) (by omega))
      exact Ev.room (K (G1, nx1) ((hb.le (by omega)).at (by rw [if_pos e, List.append_nil]))) (by omega) (by omega)
    · have e : i ≠ 0 := fun e => by subst e; exact c (by decide)
      refine ev_aload_n (k0 := 1) rfl d_P_writeQueue_25 ?_
      refine cw_bipush 44 d_P_writeQueue_26 rfl ?_
      have r1 : 1 + (2 * k + 3) ≤ 2 * (k + 1) + 2 := by omega
      have r2 : 142 + (284 * k + 288) ≤ 284 * (k + 1) + 146 := by omega
      have r3 : (qtx f i).length + 1 ≤ 71 := by omega
      refine Ev.room (ev_appC (c := 44) (mc := 2 * k + 3) (ms := 284 * k + 288) hb lj_ProphecyShop_334_1 (by omega) r3 rfl d_P_writeQueue_28 (fun M2 b2 => ?_)) r1 r2
      refine ev_pop rfl d_P_writeQueue_31 ?_
      exact K M2 (b2.at (by rw [if_neg e]))
theorem M_writeQueue (d : Nat) (hD : DG g) (hG : LM vc 0 535 μ F G) (hn : 548 ≤ nx) (hn2 : nx + 60 < 2 ^ 31) {tx : List Nat} (hp : QTX μ tx) : Mt g (d + 6) m_P_writeQueue [.inr (0, off 12 0)] (G, nx) 60 7000 (pWr G nx 50 μ tx) := by
  obtain ⟨w, f, hw, h8, hf, rfl⟩ := hp
  refine Mt.of9 [some (.inr (0, off 12 0)), none, none] (by decide +kernel) rfl rfl rfl rfl ?_
  refine Ev.room (mc := 1 + (2 * w + 2) + 1) (ms := 16 + (284 * w + 146) + 4) (ev_sbNew (B := 71) (d := d + 4) (by decide) cl_ProphecyShop_327 lj_ProphecyShop_329 rfl d_P_writeQueue_0 d_P_writeQueue_3 d_P_writeQueue_4 (fun M1 b1 => ?_)) (by omega) (by omega)
  refine cw_astoreN_n 1 [some (.inr (0, off 12 0)), some (.inr (0, nx)), none] d_P_writeQueue_7 rfl rfl rfl ?_
  refine cw_iconst 0 d_P_writeQueue_8 rfl ?_
  refine cw_istoreN_n 2 0 rfl [some (.inr (0, off 12 0)), some (.inr (0, nx)), some (.inl (.int 0))] d_P_writeQueue_9 rfl rfl rfl ?_
  exact wq_loop d hD hG hn hn2 hw h8 hf w 0 M1 (by omega) b1
/-- what is written, as class and model know it -/
def OUTR (G : RG) (nx : Nat) (x : Int32) (l : List Nat) : Prop := l.length ≤ 71 ∧ (∀ i, i < l.length → l.getD i 0 < 128) ∧ ((x < 0 ∧ l = []) ∨ ∃ s, x = nI s ∧ 548 ≤ s ∧ s + 2 ≤ nx ∧ nx < 2 ^ 30 ∧ STo G s (s + 1) l.length (ltx l))
theorem M_outputByte (d : Nat) (hS : SG g) (hG : LM vc 0 535 μ F G) {l : List Nat} (hO : OUTR G nx (μ 12 0 12) l) {x r : Int32} (hr : (ixB x l.length = 0 ∧ r = -1) ∨ ∃ i, i < l.length ∧ x = nI i ∧ r = nI (l.getD i 0)) : Mt g (d + 4) m_P_outputByte [.inr (0, off 12 0), .inl (.int x)] (G, nx) 0 0 (pRO (rI r) (G, nx)) := by
  obtain ⟨hl, hc, hO⟩ := hO
  refine Mt.of9 [some (.inr (0, off 12 0)), some (.inl (.int x))] (by decide +kernel) rfl rfl rfl rfl ?_
  have hno : (x < 0 ∨ nI l.length ≤ x) → r = -1 := by
    intro h
    rcases hr with ⟨-, e⟩ | ⟨i, hi, rfl, -⟩
    · exact e
    · rcases h with h | h
      · exact absurd h (nI_nlt (b := 0) (by omega) (by omega))
      · exact absurd h (nI_ge hi (by omega))
  have key : ∀ y : RV, fld 12 0 12 (μ 12 0 12) = y → (∃ ci n f v bf, (ci = 0 ∨ ci = 14) ∧ (∃ q, y = .inr q ∧ rdM g (G, nx) q = some (false, ci, n, f)) ∧ f 0 = .inr v ∧ f 1 = .inl (.int 0) ∧ rdM g (G, nx) v = some (true, 2, l.length, bf) ∧ ∀ i, i < l.length → bf i = .inl (.int (nI (l.getD i 0)))) := by
    intro y hy
    subst hy
    rcases hO with ⟨h, rfl⟩ | ⟨s, h, h1, h2, h3, n, f, bf, e1, e2, e3, e4, e5⟩
    · have h0 := hS 0 (by omega)
      refine ⟨14, 0, sObj 0, (1, 40), _, Or.inr rfl, ⟨(1, 0), ?_, h0.1⟩, rfl, rfl, h0.2, fun i hi => absurd hi (Nat.not_lt_zero _)⟩
      show (if μ 12 0 12 < 0 then (.inr (1, 0) : RV) else _) = _
      rw [if_pos h]
    · exact ⟨0, n, f, (0, s + 1), bf, Or.inl rfl, ⟨(0, s), by rw [h]; exact fld_out (by omega), e1⟩, e2, e3, e4, e5⟩
  obtain ⟨ci, n, f, v, bf, hci, ⟨q, hy, hq⟩, f0, f1, hv, hb⟩ := key _ rfl
  refine ev_iload_n (k0 := 1) rfl d_P_outputByte_0 ?_
  refine ev_if_lt (tgt := 26) (by decide) d_P_outputByte_1 (fun c => ?_) (fun c => ?_)
  · rw [hno (Or.inl c)]
    refine cw_iconst (-1) d_P_outputByte_26 rfl ?_
    exact ev_ireturn (st := []) rfl rfl d_P_outputByte_27 ⟨rfl, rfl⟩
  · refine ev_iload_n (k0 := 1) rfl d_P_outputByte_4 ?_
    refine ev_aload_n (k0 := 0) rfl d_P_outputByte_5 ?_
    refine cv_get9 (.inr q) hG v_12 fg_ProphecyShop_78_12 rfl hy d_P_outputByte_6 ?_
    have L84 : LV "ProphecyShop" 84 ci 0 m_String_length_8abf5 := by
      rcases hci with rfl | rfl
      · exact lj_ProphecyShop_84_0
      · exact lj_ProphecyShop_84_14
    have L90 : LV "ProphecyShop" 90 ci 1 m_String_charAt_5068e := by
      rcases hci with rfl | rfl
      · exact lj_ProphecyShop_90_0
      · exact lj_ProphecyShop_90_14
    refine Ev.z9 (ev_invV (d := d + 3) (vs := []) hq L84 (M_length (d + 2) hci hq f0 f1 hv) rfl (Nat.le_of_ble_eq_true rfl) d_P_outputByte_9 (aft_ro ?_))
    refine ev_icmp_ge (tgt := 26) (by decide) d_P_outputByte_12 (fun c2 => ?_) (fun c2 => ?_)
    · rw [hno (Or.inr c2)]
      refine cw_iconst (-1) d_P_outputByte_26 rfl ?_
      exact ev_ireturn (st := []) rfl rfl d_P_outputByte_27 ⟨rfl, rfl⟩
    · rcases hr with ⟨e0, -⟩ | ⟨i, hi, rfl, rfl⟩
      · exfalso
        unfold ixB at e0
        rw [if_neg (fun z => by rcases z with z | z; exact c z; exact c2 z)] at e0
        exact absurd e0 (by decide)
      · refine ev_aload_n (k0 := 0) rfl d_P_outputByte_15 ?_
        refine cv_get9 (.inr q) hG v_12 fg_ProphecyShop_78_12 rfl hy d_P_outputByte_16 ?_
        refine ev_iload_n (k0 := 1) rfl d_P_outputByte_19 ?_
        refine Ev.z9 (ev_invV (d := d + 3) (vs := [.inl (.int (nI i))]) hq L90 (M_charAt d hci hq f0 f1 hv (inb_of hi (by omega)) (by omega) (by rw [nI_clamp (by omega)]; exact hb i hi) (okc_n _ (hc i hi))) rfl (Nat.le_of_ble_eq_true rfl) d_P_outputByte_20 (aft_ro ?_))
        refine ev_goto (tgt := 27) (by decide) d_P_outputByte_23 ?_
        exact ev_ireturn (st := []) rfl rfl d_P_outputByte_27 ⟨rfl, rfl⟩
end Queue
/-! Cells that agree as far as the machine sees. -/
def nF (ci : Nat) : Nat := match vwCl[ci]? with
  | some r => r.2.2
  | none => 0
def CE (c c' : RC) : Prop := c.1 = c'.1 ∧ c.2.1 = c'.2.1 ∧ c.2.2.1 = c'.2.2.1 ∧ ∀ k, k < (if c.1 then c.2.2.1 else nF c.2.1) → c.2.2.2 k = c'.2.2.2 k
theorem CE.rf {c : RC} : CE c c := ⟨rfl, rfl, rfl, fun _ _ => rfl⟩
theorem arrV_ext {cA : ClassId} {n : Nat} {f f' : Nat → Value} (h : ∀ j, j < n → f j = f' j) : arrV cA n f = arrV cA n f' := by
  unfold arrV
  congr 1
  apply Array.ext
  · simp
  · intro i h1 h2
    simp at h1 ⊢
    exact h i h1
theorem cellAt.ce {g : GL} {U : State} {H : Heap} {a : Nat} {c c' : RC} (h : cellAt g U H a c) (e : CE c c') : cellAt g U H a c' := by
  obtain ⟨b, ei, n, f⟩ := c
  obtain ⟨b', ei', n', f'⟩ := c'
  obtain ⟨e1, e2, e3, e4⟩ := e
  replace e1 : b = b' := e1
  replace e2 : ei = ei' := e2
  replace e3 : n = n' := e3
  subst e1 e2 e3
  cases b with
  | false =>
    obtain ⟨r, cell, h1, h2, h3, h4, h5, h6, h7⟩ := h
    have hn : nF ei = r.2.2 := by unfold nF; rw [h1]
    refine ⟨r, cell, h1, h2, h3, h4, h5, h6, fun k hk => ?_⟩
    have := e4 k (show k < nF ei by omega)
    rw [h7 k hk, show f k = f' k from this]
  | true =>
    obtain ⟨ty, cell, h1, h2, h3, h4, h5, h6, h7, h8⟩ := h
    have e5 : ∀ j, j < n → f j = f' j := fun j hj => e4 j hj
    refine ⟨ty, cell, h1, h2, h3, h4, h5, h6, fun q => (h7 q).trans (arrV_ext (fun j hj => by rw [e5 j hj])), fun j hj => by rw [h8 j hj, e5 j hj]⟩
theorem Ev.norm {g : GL} {d : Nat} {mi : MI} {pc : Nat} {ls : List (Option RV)} {st : List RV} {G G' : RG} {nx mc ms : Nat} {Post : RO → RM → Prop} (h : Ev g d mi pc ls st (G', nx) mc ms Post) (hc : ∀ o c', G' o = some c' → ∃ c, G o = some c ∧ CE c c') : Ev g d mi pc ls st (G, nx) mc ms Post := by
  intro p e R s m args below meth c H locs cells slots lsA TC TS hC hM hS hl h1 h2 h3 h4
  refine h p e R s m args below meth c H locs cells slots lsA TC TS hC ⟨hM.1, fun o c' hc' => ?_⟩ hS hl h1 h2 h3 h4
  obtain ⟨c9, q1, q2⟩ := hc o c' hc'
  exact (hM.2 o c9 q1).ce q2
/-- the object (K, j) lies where it shall, with the numbers of μ -/
def CK (μ : Mem) (G : RG) (K j : Nat) : Prop := ∃ c, G (off K j) = some c ∧ CE c (cel μ K j)

/-! The constructors of History and ProphecyShop. -/
section Shops
variable {g : GL} {G : RG} {o : Nat}
def pObj (o : Nat) : RC := (false, 12, 0, fun k => if k = 0 then .inr (0, o + 1) else if k = 1 then .inr (0, o + 3) else if k = 2 then .inr (0, o + 4) else if k = 3 then .inr (0, o + 67) else if k = 4 then .inr (0, o + 77) else if k = 5 then .inr (0, o + 87) else if k = 6 then .inr (0, o + 124) else if k = 7 then .inr (0, o + 161) else if k = 8 then .inr (0, o + 459) else if k = 9 then .inr (0, o + 460) else if k = 11 then .inl (.int (-1)) else if k = 12 then .inr (1, 0) else .inl (.int 0))
def pC (o q : Nat) : RC := if q = 0 then pObj o else if q < 3 then textC (o + 1) (q - 1) else if q < 4 then readerC 8 (0, o + 1) else if q < 67 then scriptC (o + 4) (0, o + 1) (q - 4) else if q < 77 then setupC (o + 67) (q - 67) else if q < 87 then setupC (o + 77) (q - 77) else if q < 124 then shopC (o + 87) (0, o + 67) (q - 87) else if q < 161 then shopC (o + 124) (0, o + 67) (q - 124) else if q < 459 then histC (o + 161) (0, o + 67) (q - 161) else if q = 459 then (true, 7, 2, fun p => .inr (0, o + 461 + 37 * p)) else if q = 460 then zA 1 2 else shopC (o + 461 + 37 * ((q - 461) / 37)) (0, o + 67) ((q - 461) % 37)
theorem pC_1 {o p : Nat} (h : 1 + p < 3) : pC o (1 + p) = textC (o + 1) p := by
  unfold pC
  rw [if_neg (by omega), if_pos (by omega), show 1 + p - 1 = p by omega]
theorem pC_3 {o p : Nat} (h : 3 + p < 4) : pC o (3 + p) = readerC 8 (0, o + 1) := by
  unfold pC
  rw [if_neg (by omega), if_neg (by omega), if_pos (by omega)]
theorem pC_4 {o p : Nat} (h : 4 + p < 67) : pC o (4 + p) = scriptC (o + 4) (0, o + 1) p := by
  unfold pC
  rw [if_neg (by omega), if_neg (by omega), if_neg (by omega), if_pos (by omega), show 4 + p - 4 = p by omega]
theorem pC_67 {o p : Nat} (h : 67 + p < 77) : pC o (67 + p) = setupC (o + 67) p := by
  unfold pC
  rw [if_neg (by omega), if_neg (by omega), if_neg (by omega), if_neg (by omega), if_pos (by omega), show 67 + p - 67 = p by omega]
theorem pC_77 {o p : Nat} (h : 77 + p < 87) : pC o (77 + p) = setupC (o + 77) p := by
  unfold pC
  rw [if_neg (by omega), if_neg (by omega), if_neg (by omega), if_neg (by omega), if_neg (by omega), if_pos (by omega), show 77 + p - 77 = p by omega]
theorem pC_87 {o p : Nat} (h : 87 + p < 124) : pC o (87 + p) = shopC (o + 87) (0, o + 67) p := by
  unfold pC
  rw [if_neg (by omega), if_neg (by omega), if_neg (by omega), if_neg (by omega), if_neg (by omega), if_neg (by omega), if_pos (by omega), show 87 + p - 87 = p by omega]
theorem pC_124 {o p : Nat} (h : 124 + p < 161) : pC o (124 + p) = shopC (o + 124) (0, o + 67) p := by
  unfold pC
  rw [if_neg (by omega), if_neg (by omega), if_neg (by omega), if_neg (by omega), if_neg (by omega), if_neg (by omega), if_neg (by omega), if_pos (by omega), show 124 + p - 124 = p by omega]
theorem pC_161 {o p : Nat} (h : 161 + p < 459) : pC o (161 + p) = histC (o + 161) (0, o + 67) p := by
  unfold pC
  rw [if_neg (by omega), if_neg (by omega), if_neg (by omega), if_neg (by omega), if_neg (by omega), if_neg (by omega), if_neg (by omega), if_neg (by omega), if_pos (by omega), show 161 + p - 161 = p by omega]
theorem pC_461 {o p : Nat} (h : 461 + p < 535) : pC o (461 + p) = shopC (o + 461 + 37 * (p / 37)) (0, o + 67) (p % 37) := by
  unfold pC
  rw [if_neg (by omega), if_neg (by omega), if_neg (by omega), if_neg (by omega), if_neg (by omega), if_neg (by omega), if_neg (by omega), if_neg (by omega), if_neg (by omega), if_neg (by omega), if_neg (by omega), show 461 + p - 461 = p by omega]
set_option maxRecDepth 100000 in
set_option maxHeartbeats 4000000 in
theorem L_hist (d : Nat) {f : Nat → RV} {t : Nat × Nat} {a base : Nat} (ho : G o = some (false, 2, 0, f)) (hf : f 0 = .inr (0, a)) (ha : a < base) (hob : o < base) (hoa : o ≠ a) : ∀ k i G1, i + k = 8 → FILL G a base 37 7 8 (fun i => shopC (base + 37 * i) t) i G1 → ∀ mc ms Post, (∀ G2, FILL G a base 37 7 8 (fun i => shopC (base + 37 * i) t) 8 G2 → Ev g (d + 1 + 1) m_History_init 46 [some (.inr (0, o)), some (.inr t), some (.inl (.int (nI 8)))] [] (G2, base + 37 * 8) mc ms Post) → Ev g (d + 1 + 1) m_History_init 20 [some (.inr (0, o)), some (.inr t), some (.inl (.int (nI i)))] [] (G1, base + 37 * i) (k * 37 + mc) (k * 529 + ms) Post := by
  intro k
  induction k with
  | zero =>
    intro i G1 hi hF mc ms Post hk
    obtain rfl : i = 8 := by omega
    refine ev_iload_n (k0 := 2) rfl d_History_init_20 ?_
    refine cw_bipush 8 d_History_init_21 rfl ?_
    refine ev_icmp_ge (tgt := 46) (by decide) d_History_init_23 (fun _ => ?_) (fun z => absurd (nI_le (Nat.le_refl 8) (by omega)) z)
    exact Ev.room (hk G1 hF) (by omega) (by omega)
  | succ k ih =>
    intro i G1 hi hF mc ms Post hk
    have hF9 := hF
    obtain ⟨⟨h, h1, h2⟩, hA, hfr⟩ := hF
    have hlt : i < 8 := by omega
    refine ev_iload_n (k0 := 2) rfl d_History_init_20 ?_
    refine cw_bipush 8 d_History_init_21 rfl ?_
    refine ev_icmp_ge (tgt := 46) (by decide) d_History_init_23 (fun z => absurd z (nI_ge (a := i) (b := 8) hlt (by omega))) (fun _ => ?_)
    refine ev_aload_n (k0 := 0) rfl d_History_init_26 ?_
    have ho1 : G1 o = some (false, 2, 0, f) := (hfr o (by omega) (by omega)).trans ho
    refine ev_getg (M := (_, _)) fg_History_11_2 (show rdM g (_, _) (0, _) = _ from ho1) d_History_init_27 ?_
    rw [hf]
    refine ev_iload_n (k0 := 2) rfl d_History_init_30 ?_
    refine Ev.room (mc := 36 + (k * 37 + mc) + 1) (ms := 514 + (k * 529 + ms) + 15) (ev_new (M := (G, 0)) coC_9 cl_History_9 in_Shop ii_Shop d_History_init_31 ?_) (by omega) (by omega)
    refine ev_dup rfl d_History_init_34 ?_
    refine ev_aload_n (k0 := 1) rfl d_History_init_35 ?_
    refine ev_invI (d := d + 1) (vs := [.inr t]) lj_History_21 (M_Shop_init d (o := base + 37 * i) (t := t) wrG_S) rfl (Nat.le_of_ble_eq_true rfl) d_History_init_36 ⟨fun v M' hP => ?_, fun E M' hP => by obtain ⟨h9, -⟩ := hP; cases h9⟩
    obtain ⟨hv, hM, hP2, hF2⟩ := hP
    cases hv
    obtain ⟨G2, nx2⟩ := M'
    replace hM : nx2 = base + 37 * i + 37 := hM
    subst hM
    have hge : base ≤ base + 37 * i := by omega
    have g2 : G2 a = some (true, 7, 8, h) := (hF2 a (by omega)).trans ((wrG_N (by omega)).trans h1)
    obtain ⟨c9, e9, ce9⟩ := hP2 0 (by omega)
    obtain ⟨x1, x2, x3, x4⟩ := c9
    obtain ⟨y1, y2, y3, y4⟩ := ce9
    replace y1 : x1 = false := y1
    replace y2 : x2 = 9 := y2
    replace y3 : x3 = 0 := y3
    subst y1 y2 y3
    have hin : vp_in (nI i) 8 := vp_in_nI hlt (by omega)
    refine ev_aast (M := (G, 0)) (ci := 9) rfl rfl (by decide) g2 (show rdM g (G2, _) (0, base + 37 * i) = _ from e9) hin d_History_init_39 ?_
    rw [nI_clamp (show i < 2 ^ 31 by omega)]
    refine cw_iincN 2 1 [some (.inr (0, o)), some (.inr t), some (.inl (.int (nI (i + 1))))] d_History_init_40 rfl rfl rfl rfl (by rw [nI_1]; rfl) ?_
    refine ev_goto (tgt := 20) (by decide) d_History_init_43 ?_
    rw [show base + 37 * i + 37 = base + 37 * (i + 1) by omega]
    exact ih (i + 1) _ (by omega) (FILL.next h2 hA hfr ha (fun c hc => hP2 c hc) hF2) mc ms Post hk
set_option maxRecDepth 100000 in
set_option maxHeartbeats 4000000 in
theorem L_slots (d : Nat) {f : Nat → RV} {t : Nat × Nat} {a base : Nat} (ho : G o = some (false, 12, 0, f)) (hf : f 8 = .inr (0, a)) (ha : a < base) (hob : o < base) (hoa : o ≠ a) (hf3 : f 3 = .inr t) : ∀ k i G1, i + k = 2 → FILL G a base 37 7 2 (fun i => shopC (base + 37 * i) t) i G1 → ∀ mc ms Post, (∀ G2, FILL G a base 37 7 2 (fun i => shopC (base + 37 * i) t) 2 G2 → Ev g (d + 1 + 1) m_P_init 173 [some (.inr (0, o)), some (.inl (.int (nI 2)))] [] (G2, base + 37 * 2) mc ms Post) → Ev g (d + 1 + 1) m_P_init 145 [some (.inr (0, o)), some (.inl (.int (nI i)))] [] (G1, base + 37 * i) (k * 37 + mc) (k * 529 + ms) Post := by
  intro k
  induction k with
  | zero =>
    intro i G1 hi hF mc ms Post hk
    obtain rfl : i = 2 := by omega
    refine ev_iload_n (k0 := 1) rfl d_P_init_145 ?_
    refine cw_iconst 2 d_P_init_146 rfl ?_
    refine ev_icmp_ge (tgt := 173) (by decide) d_P_init_147 (fun _ => ?_) (fun z => absurd (nI_le (Nat.le_refl 2) (by omega)) z)
    exact Ev.room (hk G1 hF) (by omega) (by omega)
  | succ k ih =>
    intro i G1 hi hF mc ms Post hk
    have hF9 := hF
    obtain ⟨⟨h, h1, h2⟩, hA, hfr⟩ := hF
    have hlt : i < 2 := by omega
    refine ev_iload_n (k0 := 1) rfl d_P_init_145 ?_
    refine cw_iconst 2 d_P_init_146 rfl ?_
    refine ev_icmp_ge (tgt := 173) (by decide) d_P_init_147 (fun z => absurd z (nI_ge (a := i) (b := 2) hlt (by omega))) (fun _ => ?_)
    refine ev_aload_n (k0 := 0) rfl d_P_init_150 ?_
    have ho1 : G1 o = some (false, 12, 0, f) := (hfr o (by omega) (by omega)).trans ho
    refine ev_getg (M := (_, _)) fg_ProphecyShop_61_12 (show rdM g (_, _) (0, _) = _ from ho1) d_P_init_151 ?_
    rw [hf]
    refine ev_iload_n (k0 := 1) rfl d_P_init_154 ?_
    refine Ev.room (mc := 36 + (k * 37 + mc) + 1) (ms := 514 + (k * 529 + ms) + 15) (ev_new (M := (G, 0)) coC_9 cl_ProphecyShop_42 in_Shop ii_Shop d_P_init_155 ?_) (by omega) (by omega)
    refine ev_dup rfl d_P_init_158 ?_
    refine ev_aload_n (k0 := 0) rfl d_P_init_159 ?_
    refine ev_getg (M := (_, _)) fg_ProphecyShop_35_12 (show rdM g (_, _) (0, _) = _ from (wrG_N (by omega)).trans ho1) d_P_init_160 ?_
    rw [hf3]
    refine ev_invI (d := d + 1) (vs := [.inr t]) lj_ProphecyShop_44 (M_Shop_init d (o := base + 37 * i) (t := t) wrG_S) rfl (Nat.le_of_ble_eq_true rfl) d_P_init_163 ⟨fun v M' hP => ?_, fun E M' hP => by obtain ⟨h9, -⟩ := hP; cases h9⟩
    obtain ⟨hv, hM, hP2, hF2⟩ := hP
    cases hv
    obtain ⟨G2, nx2⟩ := M'
    replace hM : nx2 = base + 37 * i + 37 := hM
    subst hM
    have hge : base ≤ base + 37 * i := by omega
    have g2 : G2 a = some (true, 7, 2, h) := (hF2 a (by omega)).trans ((wrG_N (by omega)).trans h1)
    obtain ⟨c9, e9, ce9⟩ := hP2 0 (by omega)
    obtain ⟨x1, x2, x3, x4⟩ := c9
    obtain ⟨y1, y2, y3, y4⟩ := ce9
    replace y1 : x1 = false := y1
    replace y2 : x2 = 9 := y2
    replace y3 : x3 = 0 := y3
    subst y1 y2 y3
    have hin : vp_in (nI i) 2 := vp_in_nI hlt (by omega)
    refine ev_aast (M := (G, 0)) (ci := 9) rfl rfl (by decide) g2 (show rdM g (G2, _) (0, base + 37 * i) = _ from e9) hin d_P_init_166 ?_
    rw [nI_clamp (show i < 2 ^ 31 by omega)]
    refine cw_iincN 1 1 [some (.inr (0, o)), some (.inl (.int (nI (i + 1))))] d_P_init_167 rfl rfl rfl rfl (by rw [nI_1]; rfl) ?_
    refine ev_goto (tgt := 145) (by decide) d_P_init_170 ?_
    rw [show base + 37 * i + 37 = base + 37 * (i + 1) by omega]
    exact ih (i + 1) _ (by omega) (FILL.next h2 hA hfr ha (fun c hc => hP2 c hc) hF2) mc ms Post hk
set_option maxRecDepth 100000 in
set_option maxHeartbeats 4000000 in
theorem M_History_init (d : Nat) {t : Nat × Nat} {f : Nat → RV} (ho : G o = some (false, 2, 0, f)) : Mt g (d + 2) m_History_init [.inr (0, o), .inr t] (G, o + 1) 297 4240 (PI G o 298 (histC o t)) := by
  refine Mt.of9 [some (.inr (0, o)), some (.inr t), none] (by decide +kernel) rfl rfl rfl rfl ?_
  refine ev_aload_n (k0 := 0) rfl d_History_init_0 ?_
  refine ev_objInit (Nat.le_of_ble_eq_true rfl) oj_History_3 oi_1 oi_2 d_History_init_1 ?_
  refine ev_aload_n (k0 := 0) rfl d_History_init_4 ?_
  refine cw_bipush 8 d_History_init_5 rfl ?_
  refine Ev.room (mc := 296 + 1) (ms := 4232 + 8) (ev_newq (M := (G, 0)) (ei := 7) (n := 8) rfl cl_History_9 ao_Shop (by decide) (by decide) (by decide) d_History_init_7 ?_) (by omega) (by omega)
  refine ev_putfF (M := (G, 0)) fl_History_11_2 rfl ((wrG_N (by omega)).trans (ho)) (show okv g (.array (.object "ProphecyShop$Shop")) _ from okv_arr) d_History_init_10 ?_
  refine ev_aload_n (k0 := 0) rfl d_History_init_13 ?_
  refine cw_iconst 0 d_History_init_14 rfl ?_
  refine ev_putf (M := (G, 0)) fl_History_17_2 (wrG_S) (show okv g .int _ from okv_int) d_History_init_15 ?_
  refine cw_iconst 0 d_History_init_18 rfl ?_
  refine cw_istoreN_n 2 0 rfl [some (.inr (0, o)), some (.inr t), some (.inl (.int 0))] d_History_init_19 rfl rfl rfl ?_
  refine Ev.room (L_hist d (t := t) (a := o + 1) (base := o + 2) (wrG_S) rfl (by omega) (by omega) (by omega) 8 0 _ (by omega) (FILL.zero ((wrG_N (by omega)).trans ((wrG_N (by omega)).trans (wrG_S)))) 0 0 _ (fun G3 hF3 => ?_)) (by omega) (by omega)
  obtain ⟨⟨h, h1, h2⟩, hA, hfr⟩ := hF3
  refine ev_return (st := []) rfl d_History_init_46 ⟨rfl, rfl, fun i hi => ?_, fun q hq => (hfr q (by omega) (by omega)).trans ((wrG_N (by omega)).trans ((wrG_N (by omega)).trans ((wrG_N (by omega)).trans (rfl))))⟩
  by_cases e : i < 2
  · rcases (show i = 0 ∨ i = 1 by omega) with rfl | rfl
    · exact ⟨_, (hfr o (by omega) (by omega)).trans (wrG_S), rfl, rfl, rfl, fun k hk => by
      replace hk : k < 2 := hk
      rcases (show k = 0 ∨ k = 1 by omega) with rfl | rfl <;> rfl⟩
    · exact ⟨_, h1, rfl, rfl, rfl, fun k hk => h2 k hk⟩
  · obtain ⟨p, rfl⟩ : ∃ p, i = p + 2 := ⟨i - 2, by omega⟩
    have := hA (p / 37) (by omega) (p % 37) (by omega)
    rw [show o + 2 + 37 * (p / 37) + p % 37 = o + (p + 2) by omega] at this
    exact this
set_option maxRecDepth 100000 in
set_option maxHeartbeats 8000000 in
theorem P_alloc (d mc ms : Nat) {f : Nat → RV} {Post : RO → RM → Prop} (ho : G o = some (false, 12, 0, f)) (k9 : ∀ G3, (∀ i, i < 535 → AT G3 (o + i) (pC o i)) → (∀ q, q < o → G3 q = G q) → Ev g (d + 3) m_P_init 173 [some (.inr (0, o)), some (.inl (.int (nI 2)))] [] (G3, o + 461 + 37 * 2) mc ms Post) : Ev g (d + 3) m_P_init 0 [some (.inr (0, o)), none] [] (G, o + 1) (mc + 534) (ms + 8029) Post := by
  refine ev_aload_n (k0 := 0) rfl d_P_init_0 ?_
  refine ev_objInit (Nat.le_of_ble_eq_true rfl) oj_ProphecyShop_1 oi_1 oi_2 d_P_init_1 ?_
  refine ev_aload_n (k0 := 0) rfl d_P_init_4 ?_
  refine Ev.room (mc := (533 + mc) + 1) (ms := (8027 + ms) + 2) (ev_new (M := (G, 0)) coC_11 cl_ProphecyShop_7 in_Text ii_Text d_P_init_5 ?_) (by omega) (by omega)
  refine ev_dup rfl d_P_init_8 ?_
  refine Ev.room (mc := 1 + (532 + mc)) (ms := 800 + (7227 + ms)) (ev_invIN (d := d + 2) (vs := []) ln_ProphecyShop_9 (M_Text_init (d + 2) (o := o + 1) wrG_S) rfl (Nat.le_of_ble_eq_true rfl) d_P_init_9 ⟨fun v M' hP => ?_, fun E M' hP => by obtain ⟨h9, -⟩ := hP; cases h9⟩) (by omega) (by omega)
  obtain ⟨hv1, hM1, hA1, hF1⟩ := hP
  cases hv1
  obtain ⟨G1, nx1⟩ := M'
  replace hM1 : nx1 = o + 1 + 2 := hM1
  subst hM1
  refine ev_putfF (M := (G, 0)) fl_ProphecyShop_10_12 rfl ((hF1 _ (by omega)).trans ((wrG_N (by omega)).trans (ho))) (show okv g (.object "ProphecyShop$Text") _ from okv_obj) d_P_init_12 ?_
  refine ev_aload_n (k0 := 0) rfl d_P_init_15 ?_
  refine Ev.room (mc := (531 + mc) + 1) (ms := (7221 + ms) + 6) (ev_new (M := (G, 0)) coC_8 cl_ProphecyShop_16 in_SetupReader ii_SetupReader d_P_init_16 ?_) (by omega) (by omega)
  refine ev_dup rfl d_P_init_19 ?_
  refine ev_aload_n (k0 := 0) rfl d_P_init_20 ?_
  refine ev_getg (M := (_, _)) fg_ProphecyShop_10_12 (show rdM g (_, _) (0, _) = _ from ((wrG_N (by omega)).trans (wrG_S))) d_P_init_21 ?_
  refine Ev.cong (st' := [.inr (0, o + 1), .inr (0, o + 3), .inr (0, o + 3), .inr (0, o)]) ?_ rfl rfl
  refine Ev.room (mc := 0 + (531 + mc)) (ms := 0 + (7221 + ms)) (ev_invI (d := d + 2) (vs := [.inr (0, o + 1)]) lj_ProphecyShop_18 (M_SetupReader_init (d + 1) (o := o + 3) (t := (0, o + 1)) wrG_S) rfl (Nat.le_of_ble_eq_true rfl) d_P_init_24 ⟨fun v M' hP => ?_, fun E M' hP => by obtain ⟨h9, -⟩ := hP; cases h9⟩) (by omega) (by omega)
  obtain ⟨hv2, hM2, hA2, hF2⟩ := hP
  cases hv2
  obtain ⟨G2, nx2⟩ := M'
  replace hM2 : nx2 = o + 3 + 1 := hM2
  subst hM2
  refine ev_putfF (M := (G, 0)) fl_ProphecyShop_21_12 rfl ((hF2 _ (by omega)).trans ((wrG_N (by omega)).trans (wrG_S))) (show okv g (.object "ProphecyShop$SetupReader") _ from okv_obj) d_P_init_27 ?_
  refine ev_aload_n (k0 := 0) rfl d_P_init_30 ?_
  refine Ev.room (mc := (530 + mc) + 1) (ms := (7210 + ms) + 11) (ev_new (M := (G, 0)) coC_6 cl_ProphecyShop_25 in_Script ii_Script d_P_init_31 ?_) (by omega) (by omega)
  refine ev_dup rfl d_P_init_34 ?_
  refine ev_aload_n (k0 := 0) rfl d_P_init_35 ?_
  refine ev_getg (M := (_, _)) fg_ProphecyShop_10_12 (show rdM g (_, _) (0, _) = _ from ((wrG_N (by omega)).trans (wrG_S))) d_P_init_36 ?_
  refine Ev.cong (st' := [.inr (0, o + 1), .inr (0, o + 4), .inr (0, o + 4), .inr (0, o)]) ?_ rfl rfl
  refine Ev.room (mc := 62 + (468 + mc)) (ms := 722 + (6488 + ms)) (ev_invI (d := d + 2) (vs := [.inr (0, o + 1)]) lj_ProphecyShop_27 (M_Script_init (d + 1) (o := o + 4) (t := (0, o + 1)) wrG_S) rfl (Nat.le_of_ble_eq_true rfl) d_P_init_39 ⟨fun v M' hP => ?_, fun E M' hP => by obtain ⟨h9, -⟩ := hP; cases h9⟩) (by omega) (by omega)
  obtain ⟨hv3, hM3, hA3, hF3⟩ := hP
  cases hv3
  obtain ⟨G3, nx3⟩ := M'
  replace hM3 : nx3 = o + 4 + 63 := hM3
  subst hM3
  refine ev_putfF (M := (G, 0)) fl_ProphecyShop_28_12 rfl ((hF3 _ (by omega)).trans ((wrG_N (by omega)).trans (wrG_S))) (show okv g (.object "ProphecyShop$Script") _ from okv_obj) d_P_init_42 ?_
  refine ev_aload_n (k0 := 0) rfl d_P_init_45 ?_
  refine Ev.room (mc := (467 + mc) + 1) (ms := (6476 + ms) + 12) (ev_new (M := (G, 0)) coC_7 cl_ProphecyShop_32 in_Setup ii_Setup d_P_init_46 ?_) (by omega) (by omega)
  refine ev_dup rfl d_P_init_49 ?_
  refine Ev.room (mc := 9 + (458 + mc)) (ms := 51 + (6425 + ms)) (ev_invIN (d := d + 2) (vs := []) ln_ProphecyShop_34 (M_Setup_init (d + 1) (o := o + 67) wrG_S) rfl (Nat.le_of_ble_eq_true rfl) d_P_init_50 ⟨fun v M' hP => ?_, fun E M' hP => by obtain ⟨h9, -⟩ := hP; cases h9⟩) (by omega) (by omega)
  obtain ⟨hv4, hM4, hA4, hF4⟩ := hP
  cases hv4
  obtain ⟨G4, nx4⟩ := M'
  replace hM4 : nx4 = o + 67 + 10 := hM4
  subst hM4
  refine ev_putf (M := (G, 0)) fl_ProphecyShop_35_12 ((hF4 _ (by omega)).trans ((wrG_N (by omega)).trans (wrG_S))) (show okv g (.object "ProphecyShop$Setup") _ from okv_obj) d_P_init_53 ?_
  refine ev_aload_n (k0 := 0) rfl d_P_init_56 ?_
  refine Ev.room (mc := (457 + mc) + 1) (ms := (6413 + ms) + 12) (ev_new (M := (G, 0)) coC_7 cl_ProphecyShop_32 in_Setup ii_Setup d_P_init_57 ?_) (by omega) (by omega)
  refine ev_dup rfl d_P_init_60 ?_
  refine Ev.room (mc := 9 + (448 + mc)) (ms := 51 + (6362 + ms)) (ev_invIN (d := d + 2) (vs := []) ln_ProphecyShop_34 (M_Setup_init (d + 1) (o := o + 77) wrG_S) rfl (Nat.le_of_ble_eq_true rfl) d_P_init_61 ⟨fun v M' hP => ?_, fun E M' hP => by obtain ⟨h9, -⟩ := hP; cases h9⟩) (by omega) (by omega)
  obtain ⟨hv5, hM5, hA5, hF5⟩ := hP
  cases hv5
  obtain ⟨G5, nx5⟩ := M'
  replace hM5 : nx5 = o + 77 + 10 := hM5
  subst hM5
  refine ev_putf (M := (G, 0)) fl_ProphecyShop_39_12 ((hF5 _ (by omega)).trans ((wrG_N (by omega)).trans (wrG_S))) (show okv g (.object "ProphecyShop$Setup") _ from okv_obj) d_P_init_64 ?_
  refine ev_aload_n (k0 := 0) rfl d_P_init_67 ?_
  refine Ev.room (mc := (447 + mc) + 1) (ms := (6347 + ms) + 15) (ev_new (M := (G, 0)) coC_9 cl_ProphecyShop_42 in_Shop ii_Shop d_P_init_68 ?_) (by omega) (by omega)
  refine ev_dup rfl d_P_init_71 ?_
  refine ev_aload_n (k0 := 0) rfl d_P_init_72 ?_
  refine ev_getg (M := (_, _)) fg_ProphecyShop_35_12 (show rdM g (_, _) (0, _) = _ from ((wrG_N (by omega)).trans (wrG_S))) d_P_init_73 ?_
  refine Ev.cong (st' := [.inr (0, o + 67), .inr (0, o + 87), .inr (0, o + 87), .inr (0, o)]) ?_ rfl rfl
  refine Ev.room (mc := 36 + (411 + mc)) (ms := 514 + (5833 + ms)) (ev_invI (d := d + 2) (vs := [.inr (0, o + 67)]) lj_ProphecyShop_44 (M_Shop_init (d + 1) (o := o + 87) (t := (0, o + 67)) wrG_S) rfl (Nat.le_of_ble_eq_true rfl) d_P_init_76 ⟨fun v M' hP => ?_, fun E M' hP => by obtain ⟨h9, -⟩ := hP; cases h9⟩) (by omega) (by omega)
  obtain ⟨hv6, hM6, hA6, hF6⟩ := hP
  cases hv6
  obtain ⟨G6, nx6⟩ := M'
  replace hM6 : nx6 = o + 87 + 37 := hM6
  subst hM6
  refine ev_putfF (M := (G, 0)) fl_ProphecyShop_47_12 rfl ((hF6 _ (by omega)).trans ((wrG_N (by omega)).trans (wrG_S))) (show okv g (.object "ProphecyShop$Shop") _ from okv_obj) d_P_init_79 ?_
  refine ev_aload_n (k0 := 0) rfl d_P_init_82 ?_
  refine Ev.room (mc := (410 + mc) + 1) (ms := (5818 + ms) + 15) (ev_new (M := (G, 0)) coC_9 cl_ProphecyShop_42 in_Shop ii_Shop d_P_init_83 ?_) (by omega) (by omega)
  refine ev_dup rfl d_P_init_86 ?_
  refine ev_aload_n (k0 := 0) rfl d_P_init_87 ?_
  refine ev_getg (M := (_, _)) fg_ProphecyShop_35_12 (show rdM g (_, _) (0, _) = _ from ((wrG_N (by omega)).trans (wrG_S))) d_P_init_88 ?_
  refine Ev.cong (st' := [.inr (0, o + 67), .inr (0, o + 124), .inr (0, o + 124), .inr (0, o)]) ?_ rfl rfl
  refine Ev.room (mc := 36 + (374 + mc)) (ms := 514 + (5304 + ms)) (ev_invI (d := d + 2) (vs := [.inr (0, o + 67)]) lj_ProphecyShop_44 (M_Shop_init (d + 1) (o := o + 124) (t := (0, o + 67)) wrG_S) rfl (Nat.le_of_ble_eq_true rfl) d_P_init_91 ⟨fun v M' hP => ?_, fun E M' hP => by obtain ⟨h9, -⟩ := hP; cases h9⟩) (by omega) (by omega)
  obtain ⟨hv7, hM7, hA7, hF7⟩ := hP
  cases hv7
  obtain ⟨G7, nx7⟩ := M'
  replace hM7 : nx7 = o + 124 + 37 := hM7
  subst hM7
  refine ev_putfF (M := (G, 0)) fl_ProphecyShop_51_12 rfl ((hF7 _ (by omega)).trans ((wrG_N (by omega)).trans (wrG_S))) (show okv g (.object "ProphecyShop$Shop") _ from okv_obj) d_P_init_94 ?_
  refine ev_aload_n (k0 := 0) rfl d_P_init_97 ?_
  refine Ev.room (mc := (373 + mc) + 1) (ms := (5302 + ms) + 2) (ev_new (M := (G, 0)) coC_2 cl_ProphecyShop_54 in_History ii_History d_P_init_98 ?_) (by omega) (by omega)
  refine ev_dup rfl d_P_init_101 ?_
  refine ev_aload_n (k0 := 0) rfl d_P_init_102 ?_
  refine ev_getg (M := (_, _)) fg_ProphecyShop_35_12 (show rdM g (_, _) (0, _) = _ from ((wrG_N (by omega)).trans (wrG_S))) d_P_init_103 ?_
  refine Ev.cong (st' := [.inr (0, o + 67), .inr (0, o + 161), .inr (0, o + 161), .inr (0, o)]) ?_ rfl rfl
  refine Ev.room (mc := 297 + (76 + mc)) (ms := 4240 + (1062 + ms)) (ev_invI (d := d + 2) (vs := [.inr (0, o + 67)]) lj_ProphecyShop_56 (M_History_init d (o := o + 161) (t := (0, o + 67)) wrG_S) rfl (Nat.le_of_ble_eq_true rfl) d_P_init_106 ⟨fun v M' hP => ?_, fun E M' hP => by obtain ⟨h9, -⟩ := hP; cases h9⟩) (by omega) (by omega)
  obtain ⟨hv8, hM8, hA8, hF8⟩ := hP
  cases hv8
  obtain ⟨G8, nx8⟩ := M'
  replace hM8 : nx8 = o + 161 + 298 := hM8
  subst hM8
  refine ev_putfF (M := (G, 0)) fl_ProphecyShop_57_12 rfl ((hF8 _ (by omega)).trans ((wrG_N (by omega)).trans (wrG_S))) (show okv g (.object "ProphecyShop$History") _ from okv_obj) d_P_init_109 ?_
  refine ev_aload_n (k0 := 0) rfl d_P_init_112 ?_
  refine cw_iconst 2 d_P_init_113 rfl ?_
  refine Ev.room (mc := (75 + mc) + 1) (ms := (1060 + ms) + 2) (ev_newq (M := (G, 0)) (ei := 7) (n := 2) rfl cl_ProphecyShop_42 ao_Shop (by decide) (by decide) (by decide) d_P_init_114 ?_) (by omega) (by omega)
  refine ev_putfF (M := (G, 0)) fl_ProphecyShop_61_12 rfl ((wrG_N (by omega)).trans (wrG_S)) (show okv g (.array (.object "ProphecyShop$Shop")) _ from okv_arr) d_P_init_117 ?_
  refine ev_aload_n (k0 := 0) rfl d_P_init_120 ?_
  refine cw_iconst 2 d_P_init_121 rfl ?_
  refine Ev.room (mc := (74 + mc) + 1) (ms := (1058 + ms) + 2) (ev_newa (M := (G, 0)) (ei := 1) (n := 2) (at0 := .boolean) (ty := .boolean) rfl rfl (by decide) ac_boolean (by decide) (by decide) (by decide) d_P_init_122 ?_) (by omega) (by omega)
  refine ev_putfF (M := (G, 0)) fl_ProphecyShop_65_12 rfl ((wrG_N (by omega)).trans (wrG_S)) (show okv g (.array .boolean) _ from okv_arr) d_P_init_124 ?_
  refine ev_aload_n (k0 := 0) rfl d_P_init_127 ?_
  refine cw_iconst 0 d_P_init_128 rfl ?_
  refine ev_putf (M := (G, 0)) fl_ProphecyShop_69_12 (wrG_S) (show okv g .int _ from okv_int) d_P_init_129 ?_
  refine ev_aload_n (k0 := 0) rfl d_P_init_132 ?_
  refine cw_iconst (-1) d_P_init_133 rfl ?_
  refine ev_putf (M := (G, 0)) fl_ProphecyShop_73_12 (wrG_S) (show okv g .int _ from okv_int) d_P_init_134 ?_
  refine ev_aload_n (k0 := 0) rfl d_P_init_137 ?_
  refine ev_ldcS st_0 d_P_init_138 ?_
  refine ev_putf (M := (G, 0)) fl_ProphecyShop_78_12 (wrG_S) (show okv g (.object "java/lang/String") _ from okv_obj) d_P_init_140 ?_
  refine cw_iconst 0 d_P_init_143 rfl ?_
  refine cw_istoreN_n 1 0 rfl [some (.inr (0, o)), some (.inl (.int 0))] d_P_init_144 rfl rfl rfl ?_
  refine Ev.room (L_slots (d + 1) (t := (0, o + 67)) (a := o + 459) (base := o + 461) (wrG_S) rfl (by omega) (by omega) (by omega) rfl 2 0 _ (by omega) (FILL.zero ((wrG_N (by omega)).trans ((wrG_N (by omega)).trans ((wrG_N (by omega)).trans ((wrG_N (by omega)).trans ((wrG_N (by omega)).trans ((wrG_N (by omega)).trans (wrG_S)))))))) mc ms _ (fun G3 hF3 => ?_)) (by omega) (by omega)
  obtain ⟨⟨h, h1, h2⟩, hA, hfr⟩ := hF3
  refine k9 G3 (fun i hi => ?_) (fun q hq => (hfr q (by omega) (by omega)).trans ((wrG_N (by omega)).trans ((wrG_N (by omega)).trans ((wrG_N (by omega)).trans ((wrG_N (by omega)).trans ((wrG_N (by omega)).trans ((wrG_N (by omega)).trans ((wrG_N (by omega)).trans ((wrG_N (by omega)).trans ((hF8 _ (by omega)).trans ((wrG_N (by omega)).trans ((wrG_N (by omega)).trans ((hF7 _ (by omega)).trans ((wrG_N (by omega)).trans ((wrG_N (by omega)).trans ((hF6 _ (by omega)).trans ((wrG_N (by omega)).trans ((wrG_N (by omega)).trans ((hF5 _ (by omega)).trans ((wrG_N (by omega)).trans ((wrG_N (by omega)).trans ((hF4 _ (by omega)).trans ((wrG_N (by omega)).trans ((wrG_N (by omega)).trans ((hF3 _ (by omega)).trans ((wrG_N (by omega)).trans ((wrG_N (by omega)).trans ((hF2 _ (by omega)).trans ((wrG_N (by omega)).trans ((wrG_N (by omega)).trans ((hF1 _ (by omega)).trans ((wrG_N (by omega)).trans (rfl)))))))))))))))))))))))))))))))))
  by_cases e0 : i = 0
  · subst e0
    exact ⟨_, (hfr o (by omega) (by omega)).trans (wrG_S), rfl, rfl, rfl, fun k hk => by
      replace hk : k < 13 := hk
      rcases (show k = 0 ∨ k = 1 ∨ k = 2 ∨ k = 3 ∨ k = 4 ∨ k = 5 ∨ k = 6 ∨ k = 7 ∨ k = 8 ∨ k = 9 ∨ k = 10 ∨ k = 11 ∨ k = 12 by omega) with rfl | rfl | rfl | rfl | rfl | rfl | rfl | rfl | rfl | rfl | rfl | rfl | rfl <;> rfl⟩
  by_cases e2 : i < 3
  · obtain ⟨p, rfl⟩ : ∃ p, i = 1 + p := ⟨i - 1, by omega⟩
    have h8 := (hA1 p (by omega)).fr ((hfr (o + 1 + p) (by omega) (by omega)).trans ((wrG_N (by omega)).trans ((wrG_N (by omega)).trans ((wrG_N (by omega)).trans ((wrG_N (by omega)).trans ((wrG_N (by omega)).trans ((wrG_N (by omega)).trans ((wrG_N (by omega)).trans ((wrG_N (by omega)).trans ((hF8 _ (by omega)).trans ((wrG_N (by omega)).trans ((wrG_N (by omega)).trans ((hF7 _ (by omega)).trans ((wrG_N (by omega)).trans ((wrG_N (by omega)).trans ((hF6 _ (by omega)).trans ((wrG_N (by omega)).trans ((wrG_N (by omega)).trans ((hF5 _ (by omega)).trans ((wrG_N (by omega)).trans ((wrG_N (by omega)).trans ((hF4 _ (by omega)).trans ((wrG_N (by omega)).trans ((wrG_N (by omega)).trans ((hF3 _ (by omega)).trans ((wrG_N (by omega)).trans ((wrG_N (by omega)).trans ((hF2 _ (by omega)).trans ((wrG_N (by omega)).trans ((wrG_N (by omega)).trans (rfl)))))))))))))))))))))))))))))))
    rw [Nat.add_assoc] at h8
    rw [pC_1 (by omega)]
    exact h8
  by_cases e4 : i < 4
  · obtain ⟨p, rfl⟩ : ∃ p, i = 3 + p := ⟨i - 3, by omega⟩
    have h8 := (hA2 p (by omega)).fr ((hfr (o + 3 + p) (by omega) (by omega)).trans ((wrG_N (by omega)).trans ((wrG_N (by omega)).trans ((wrG_N (by omega)).trans ((wrG_N (by omega)).trans ((wrG_N (by omega)).trans ((wrG_N (by omega)).trans ((wrG_N (by omega)).trans ((wrG_N (by omega)).trans ((hF8 _ (by omega)).trans ((wrG_N (by omega)).trans ((wrG_N (by omega)).trans ((hF7 _ (by omega)).trans ((wrG_N (by omega)).trans ((wrG_N (by omega)).trans ((hF6 _ (by omega)).trans ((wrG_N (by omega)).trans ((wrG_N (by omega)).trans ((hF5 _ (by omega)).trans ((wrG_N (by omega)).trans ((wrG_N (by omega)).trans ((hF4 _ (by omega)).trans ((wrG_N (by omega)).trans ((wrG_N (by omega)).trans ((hF3 _ (by omega)).trans ((wrG_N (by omega)).trans ((wrG_N (by omega)).trans (rfl))))))))))))))))))))))))))))
    rw [Nat.add_assoc] at h8
    rw [pC_3 (by omega)]
    exact h8
  by_cases e5 : i < 67
  · obtain ⟨p, rfl⟩ : ∃ p, i = 4 + p := ⟨i - 4, by omega⟩
    have h8 := (hA3 p (by omega)).fr ((hfr (o + 4 + p) (by omega) (by omega)).trans ((wrG_N (by omega)).trans ((wrG_N (by omega)).trans ((wrG_N (by omega)).trans ((wrG_N (by omega)).trans ((wrG_N (by omega)).trans ((wrG_N (by omega)).trans ((wrG_N (by omega)).trans ((wrG_N (by omega)).trans ((hF8 _ (by omega)).trans ((wrG_N (by omega)).trans ((wrG_N (by omega)).trans ((hF7 _ (by omega)).trans ((wrG_N (by omega)).trans ((wrG_N (by omega)).trans ((hF6 _ (by omega)).trans ((wrG_N (by omega)).trans ((wrG_N (by omega)).trans ((hF5 _ (by omega)).trans ((wrG_N (by omega)).trans ((wrG_N (by omega)).trans ((hF4 _ (by omega)).trans ((wrG_N (by omega)).trans ((wrG_N (by omega)).trans (rfl)))))))))))))))))))))))))
    rw [Nat.add_assoc] at h8
    rw [pC_4 (by omega)]
    exact h8
  by_cases e68 : i < 77
  · obtain ⟨p, rfl⟩ : ∃ p, i = 67 + p := ⟨i - 67, by omega⟩
    have h8 := (hA4 p (by omega)).fr ((hfr (o + 67 + p) (by omega) (by omega)).trans ((wrG_N (by omega)).trans ((wrG_N (by omega)).trans ((wrG_N (by omega)).trans ((wrG_N (by omega)).trans ((wrG_N (by omega)).trans ((wrG_N (by omega)).trans ((wrG_N (by omega)).trans ((wrG_N (by omega)).trans ((hF8 _ (by omega)).trans ((wrG_N (by omega)).trans ((wrG_N (by omega)).trans ((hF7 _ (by omega)).trans ((wrG_N (by omega)).trans ((wrG_N (by omega)).trans ((hF6 _ (by omega)).trans ((wrG_N (by omega)).trans ((wrG_N (by omega)).trans ((hF5 _ (by omega)).trans ((wrG_N (by omega)).trans ((wrG_N (by omega)).trans (rfl))))))))))))))))))))))
    rw [Nat.add_assoc] at h8
    rw [pC_67 (by omega)]
    exact h8
  by_cases e78 : i < 87
  · obtain ⟨p, rfl⟩ : ∃ p, i = 77 + p := ⟨i - 77, by omega⟩
    have h8 := (hA5 p (by omega)).fr ((hfr (o + 77 + p) (by omega) (by omega)).trans ((wrG_N (by omega)).trans ((wrG_N (by omega)).trans ((wrG_N (by omega)).trans ((wrG_N (by omega)).trans ((wrG_N (by omega)).trans ((wrG_N (by omega)).trans ((wrG_N (by omega)).trans ((wrG_N (by omega)).trans ((hF8 _ (by omega)).trans ((wrG_N (by omega)).trans ((wrG_N (by omega)).trans ((hF7 _ (by omega)).trans ((wrG_N (by omega)).trans ((wrG_N (by omega)).trans ((hF6 _ (by omega)).trans ((wrG_N (by omega)).trans ((wrG_N (by omega)).trans (rfl)))))))))))))))))))
    rw [Nat.add_assoc] at h8
    rw [pC_77 (by omega)]
    exact h8
  by_cases e88 : i < 124
  · obtain ⟨p, rfl⟩ : ∃ p, i = 87 + p := ⟨i - 87, by omega⟩
    have h8 := (hA6 p (by omega)).fr ((hfr (o + 87 + p) (by omega) (by omega)).trans ((wrG_N (by omega)).trans ((wrG_N (by omega)).trans ((wrG_N (by omega)).trans ((wrG_N (by omega)).trans ((wrG_N (by omega)).trans ((wrG_N (by omega)).trans ((wrG_N (by omega)).trans ((wrG_N (by omega)).trans ((hF8 _ (by omega)).trans ((wrG_N (by omega)).trans ((wrG_N (by omega)).trans ((hF7 _ (by omega)).trans ((wrG_N (by omega)).trans ((wrG_N (by omega)).trans (rfl))))))))))))))))
    rw [Nat.add_assoc] at h8
    rw [pC_87 (by omega)]
    exact h8
  by_cases e125 : i < 161
  · obtain ⟨p, rfl⟩ : ∃ p, i = 124 + p := ⟨i - 124, by omega⟩
    have h8 := (hA7 p (by omega)).fr ((hfr (o + 124 + p) (by omega) (by omega)).trans ((wrG_N (by omega)).trans ((wrG_N (by omega)).trans ((wrG_N (by omega)).trans ((wrG_N (by omega)).trans ((wrG_N (by omega)).trans ((wrG_N (by omega)).trans ((wrG_N (by omega)).trans ((wrG_N (by omega)).trans ((hF8 _ (by omega)).trans ((wrG_N (by omega)).trans ((wrG_N (by omega)).trans (rfl)))))))))))))
    rw [Nat.add_assoc] at h8
    rw [pC_124 (by omega)]
    exact h8
  by_cases e162 : i < 459
  · obtain ⟨p, rfl⟩ : ∃ p, i = 161 + p := ⟨i - 161, by omega⟩
    have h8 := (hA8 p (by omega)).fr ((hfr (o + 161 + p) (by omega) (by omega)).trans ((wrG_N (by omega)).trans ((wrG_N (by omega)).trans ((wrG_N (by omega)).trans ((wrG_N (by omega)).trans ((wrG_N (by omega)).trans ((wrG_N (by omega)).trans ((wrG_N (by omega)).trans ((wrG_N (by omega)).trans (rfl))))))))))
    rw [Nat.add_assoc] at h8
    rw [pC_161 (by omega)]
    exact h8
  by_cases e459 : i = 459
  · subst e459
    exact ⟨_, h1, rfl, rfl, rfl, fun k hk => h2 k hk⟩
  by_cases e460 : i = 460
  · subst e460
    exact ⟨_, (hfr (o + 460) (by omega) (by omega)).trans ((wrG_N (by omega)).trans ((wrG_N (by omega)).trans ((wrG_N (by omega)).trans ((wrG_N (by omega)).trans (wrG_S))))), CE.rf⟩
  obtain ⟨p, rfl⟩ : ∃ p, i = 461 + p := ⟨i - 461, by omega⟩
  have h9 := hA (p / 37) (by omega) (p % 37) (by omega)
  rw [show o + 461 + 37 * (p / 37) + p % 37 = o + (461 + p) by omega] at h9
  rw [pC_461 (by omega)]
  exact h9
end Shops

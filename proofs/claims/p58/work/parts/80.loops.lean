/-! The constructors with loops. -/
/-- an array at a is being filled with objects of sz cells each, made from base on -/
def FILL (G0 : RG) (a base sz ei n : Nat) (cells : Nat → Nat → RC) (i : Nat) (G1 : RG) : Prop := (∃ h, G1 a = some (true, ei, n, h) ∧ ∀ p, p < i → h p = .inr (0, base + sz * p)) ∧ (∀ p, p < i → ∀ c, c < sz → AT G1 (base + sz * p + c) (cells p c)) ∧ ∀ q, q < base → q ≠ a → G1 q = G0 q
theorem FILL.zero {G0 : RG} {a base sz ei n : Nat} {cells : Nat → Nat → RC} {h : Nat → RV} (ha : G0 a = some (true, ei, n, h)) : FILL G0 a base sz ei n cells 0 G0 :=
  ⟨⟨h, ha, fun p hp => absurd hp (Nat.not_lt_zero _)⟩, fun p hp => absurd hp (Nat.not_lt_zero _), fun _ _ _ => rfl⟩
theorem FILL.next {G0 G1 G2 : RG} {a base sz ei n i : Nat} {cells : Nat → Nat → RC} {h : Nat → RV} {c0 : RC} (hh : ∀ p, p < i → h p = .inr (0, base + sz * p)) (hA : ∀ p, p < i → ∀ c, c < sz → AT G1 (base + sz * p + c) (cells p c)) (hfr : ∀ q, q < base → q ≠ a → G1 q = G0 q) (ha : a < base) (hP : ∀ c, c < sz → AT G2 (base + sz * i + c) (cells i c)) (hF : ∀ q, q < base + sz * i → G2 q = wrG G1 (base + sz * i) c0 q) : FILL G0 a base sz ei n cells (i + 1) (wrG G2 a (true, ei, n, updF h i (.inr (0, base + sz * i)))) := by
  have hge : ∀ p, base ≤ base + sz * p := fun p => Nat.le_add_right _ _
  refine ⟨⟨_, wrG_S, fun p hp => ?_⟩, fun p hp c hc => ?_, fun q q1 q2 => ?_⟩
  · unfold updF
    by_cases e : p = i
    · rw [if_pos e, e]
    · rw [if_neg e]
      exact hh p (by omega)
  · have := hge p
    refine AT.fr (G := G2) ?_ (wrG_N (by omega))
    by_cases e : p = i
    · subst e
      exact hP c hc
    · have h1 : sz * p + sz ≤ sz * i := by
        rw [← Nat.mul_succ]
        exact Nat.mul_le_mul_left sz (by omega)
      exact (hA p (by omega) c hc).fr ((hF _ (by omega)).trans (wrG_N (by omega)))
  · have := hge i
    exact (wrG_N q2).trans ((hF q (by omega)).trans ((wrG_N (by omega)).trans (hfr q q1 q2)))
def readerC (ci : Nat) (t : Nat × Nat) : RC := (false, ci, 0, fun k => if k = 0 then .inr t else if k = 5 then .inl (.int (-1)) else .inl (.int 0))
def scriptC (o : Nat) (t : Nat × Nat) : Nat → RC
  | 0 => (false, 6, 0, fun k => if k = 0 then .inr t else if k = 5 then .inl (.int (-1)) else if k = 6 then .inr (0, o + 1) else if k = 9 then .inr (0, o + 2) else .inl (.int 0))
  | 1 => (true, 6, 60, fun p => .inr (0, o + 3 + 1 * p))
  | 2 => zA 0 2
  | _ => stepC
def shopC (o : Nat) (t : Nat × Nat) : Nat → RC
  | 0 => (false, 9, 0, fun k => if k = 0 then .inr t else if k = 3 then .inr (0, o + 1) else if k = 4 then .inr (0, o + 2) else if k = 6 then .inr (0, o + 3) else if k = 7 then .inr (0, o + 4) else if k = 9 then .inr (0, o + 5) else if k = 10 then .inr (0, o + 6) else if k = 11 then .inr (0, o + 7) else .inl (.int 0))
  | 1 => zA 0 8
  | 2 => (true, 4, 24, fun p => .inr (0, o + 8 + 1 * p))
  | 3 => (true, 5, 5, fun p => .inr (0, o + 32 + 1 * p))
  | 4 => zA 0 24
  | 5 => zA 0 60
  | 6 => zA 0 60
  | 7 => zA 0 60
  | n => if n < 32 then prophC else owlC
def histC (o : Nat) (t : Nat × Nat) : Nat → RC
  | 0 => (false, 2, 0, fun k => if k = 0 then .inr (0, o + 1) else .inl (.int 0))
  | 1 => (true, 7, 8, fun p => .inr (0, o + 2 + 37 * p))
  | n => shopC (o + 2 + 37 * ((n - 2) / 37)) t ((n - 2) % 37)
section Loops
variable {g : GL} {G : RG} {o : Nat}
set_option maxRecDepth 100000 in
set_option maxHeartbeats 4000000 in
theorem L_script (d : Nat) {f : Nat → RV} {t : Nat × Nat} {a base : Nat} (ho : G o = some (false, 6, 0, f)) (hf : f 6 = .inr (0, a)) (ha : a < base) (hob : o < base) (hoa : o ≠ a) : ∀ k i G1, i + k = 60 → FILL G a base 1 6 60 (fun _ _ => stepC) i G1 → ∀ mc ms Post, (∀ G2, FILL G a base 1 6 60 (fun _ _ => stepC) 60 G2 → Ev g (d + 1) m_Script_init 63 [some (.inr (0, o)), some (.inr t), some (.inl (.int (nI 60)))] [] (G2, base + 1 * 60) mc ms Post) → Ev g (d + 1) m_Script_init 38 [some (.inr (0, o)), some (.inr t), some (.inl (.int (nI i)))] [] (G1, base + 1 * i) (k * 1 + mc) (k * 11 + ms) Post := by
  intro k
  induction k with
  | zero =>
    intro i G1 hi hF mc ms Post hk
    obtain rfl : i = 60 := by omega
    refine ev_iload_n (k0 := 2) rfl d_Script_init_38 ?_
    refine cw_bipush 60 d_Script_init_39 rfl ?_
    refine ev_icmp_ge (tgt := 63) (by decide) d_Script_init_41 (fun _ => ?_) (fun z => absurd (nI_le (Nat.le_refl 60) (by omega)) z)
    exact Ev.room (hk G1 hF) (by omega) (by omega)
  | succ k ih =>
    intro i G1 hi hF mc ms Post hk
    have hF9 := hF
    obtain ⟨⟨h, h1, h2⟩, hA, hfr⟩ := hF
    have hlt : i < 60 := by omega
    refine ev_iload_n (k0 := 2) rfl d_Script_init_38 ?_
    refine cw_bipush 60 d_Script_init_39 rfl ?_
    refine ev_icmp_ge (tgt := 63) (by decide) d_Script_init_41 (fun z => absurd z (nI_ge (a := i) (b := 60) hlt (by omega))) (fun _ => ?_)
    refine ev_aload_n (k0 := 0) rfl d_Script_init_44 ?_
    have ho1 : G1 o = some (false, 6, 0, f) := (hfr o (by omega) (by omega)).trans ho
    refine ev_getg (M := (_, _)) fg_Script_13_6 (show rdM g (_, _) (0, _) = _ from ho1) d_Script_init_45 ?_
    rw [hf]
    refine ev_iload_n (k0 := 2) rfl d_Script_init_48 ?_
    refine Ev.room (mc := 0 + (k * 1 + mc) + 1) (ms := 0 + (k * 11 + ms) + 11) (ev_new (M := (G, 0)) coC_10 cl_Script_11 in_Step ii_Step d_Script_init_49 ?_) (by omega) (by omega)
    refine ev_dup rfl d_Script_init_52 ?_
    refine ev_invIN (d := d) (vs := []) ln_Script_31 (M_Step_init d (o := base + 1 * i) wrG_S) rfl (Nat.le_of_ble_eq_true rfl) d_Script_init_53 ⟨fun v M' hP => ?_, fun E M' hP => by obtain ⟨h9, -⟩ := hP; cases h9⟩
    obtain ⟨hv, hM, hP2, hF2⟩ := hP
    cases hv
    obtain ⟨G2, nx2⟩ := M'
    replace hM : nx2 = base + 1 * i + 1 := hM
    subst hM
    have hge : base ≤ base + 1 * i := by omega
    have g2 : G2 a = some (true, 6, 60, h) := (hF2 a (by omega)).trans ((wrG_N (by omega)).trans h1)
    obtain ⟨c9, e9, ce9⟩ := hP2 0 (by omega)
    obtain ⟨x1, x2, x3, x4⟩ := c9
    obtain ⟨y1, y2, y3, y4⟩ := ce9
    replace y1 : x1 = false := y1
    replace y2 : x2 = 10 := y2
    replace y3 : x3 = 0 := y3
    subst y1 y2 y3
    have hin : vp_in (nI i) 60 := vp_in_nI hlt (by omega)
    refine ev_aast (M := (G, 0)) (ci := 10) rfl rfl (by decide) g2 (show rdM g (G2, _) (0, base + 1 * i) = _ from e9) hin d_Script_init_56 ?_
    rw [nI_clamp (show i < 2 ^ 31 by omega)]
    refine cw_iincN 2 1 [some (.inr (0, o)), some (.inr t), some (.inl (.int (nI (i + 1))))] d_Script_init_57 rfl rfl rfl rfl (by rw [nI_1]; rfl) ?_
    refine ev_goto (tgt := 38) (by decide) d_Script_init_60 ?_
    rw [show base + 1 * i + 1 = base + 1 * (i + 1) by omega]
    exact ih (i + 1) _ (by omega) (FILL.next h2 hA hfr ha (fun c hc => hP2 c hc) hF2) mc ms Post hk
set_option maxRecDepth 100000 in
set_option maxHeartbeats 4000000 in
theorem L_shopP (d : Nat) {f : Nat → RV} {t : Nat × Nat} {a base : Nat} (ho : G o = some (false, 9, 0, f)) (hf : f 4 = .inr (0, a)) (ha : a < base) (hob : o < base) (hoa : o ≠ a) : ∀ k i G1, i + k = 24 → FILL G a base 1 4 24 (fun _ _ => prophC) i G1 → ∀ mc ms Post, (∀ G2, FILL G a base 1 4 24 (fun _ _ => prophC) 24 G2 → Ev g (d + 1) m_Shop_init 128 [some (.inr (0, o)), some (.inr t), some (.inl (.int (nI 24)))] [] (G2, base + 1 * 24) mc ms Post) → Ev g (d + 1) m_Shop_init 103 [some (.inr (0, o)), some (.inr t), some (.inl (.int (nI i)))] [] (G1, base + 1 * i) (k * 1 + mc) (k * 10 + ms) Post := by
  intro k
  induction k with
  | zero =>
    intro i G1 hi hF mc ms Post hk
    obtain rfl : i = 24 := by omega
    refine ev_iload_n (k0 := 2) rfl d_Shop_init_103 ?_
    refine cw_bipush 24 d_Shop_init_104 rfl ?_
    refine ev_icmp_ge (tgt := 128) (by decide) d_Shop_init_106 (fun _ => ?_) (fun z => absurd (nI_le (Nat.le_refl 24) (by omega)) z)
    exact Ev.room (hk G1 hF) (by omega) (by omega)
  | succ k ih =>
    intro i G1 hi hF mc ms Post hk
    have hF9 := hF
    obtain ⟨⟨h, h1, h2⟩, hA, hfr⟩ := hF
    have hlt : i < 24 := by omega
    refine ev_iload_n (k0 := 2) rfl d_Shop_init_103 ?_
    refine cw_bipush 24 d_Shop_init_104 rfl ?_
    refine ev_icmp_ge (tgt := 128) (by decide) d_Shop_init_106 (fun z => absurd z (nI_ge (a := i) (b := 24) hlt (by omega))) (fun _ => ?_)
    refine ev_aload_n (k0 := 0) rfl d_Shop_init_109 ?_
    have ho1 : G1 o = some (false, 9, 0, f) := (hfr o (by omega) (by omega)).trans ho
    refine ev_getg (M := (_, _)) fg_Shop_24_9 (show rdM g (_, _) (0, _) = _ from ho1) d_Shop_init_110 ?_
    rw [hf]
    refine ev_iload_n (k0 := 2) rfl d_Shop_init_113 ?_
    refine Ev.room (mc := 0 + (k * 1 + mc) + 1) (ms := 0 + (k * 10 + ms) + 10) (ev_new (M := (G, 0)) coC_5 cl_Shop_22 in_Prophecy ii_Prophecy d_Shop_init_114 ?_) (by omega) (by omega)
    refine ev_dup rfl d_Shop_init_117 ?_
    refine ev_invIN (d := d) (vs := []) ln_Shop_65 (M_Prophecy_init d (o := base + 1 * i) wrG_S) rfl (Nat.le_of_ble_eq_true rfl) d_Shop_init_118 ⟨fun v M' hP => ?_, fun E M' hP => by obtain ⟨h9, -⟩ := hP; cases h9⟩
    obtain ⟨hv, hM, hP2, hF2⟩ := hP
    cases hv
    obtain ⟨G2, nx2⟩ := M'
    replace hM : nx2 = base + 1 * i + 1 := hM
    subst hM
    have hge : base ≤ base + 1 * i := by omega
    have g2 : G2 a = some (true, 4, 24, h) := (hF2 a (by omega)).trans ((wrG_N (by omega)).trans h1)
    obtain ⟨c9, e9, ce9⟩ := hP2 0 (by omega)
    obtain ⟨x1, x2, x3, x4⟩ := c9
    obtain ⟨y1, y2, y3, y4⟩ := ce9
    replace y1 : x1 = false := y1
    replace y2 : x2 = 5 := y2
    replace y3 : x3 = 0 := y3
    subst y1 y2 y3
    have hin : vp_in (nI i) 24 := vp_in_nI hlt (by omega)
    refine ev_aast (M := (G, 0)) (ci := 5) rfl rfl (by decide) g2 (show rdM g (G2, _) (0, base + 1 * i) = _ from e9) hin d_Shop_init_121 ?_
    rw [nI_clamp (show i < 2 ^ 31 by omega)]
    refine cw_iincN 2 1 [some (.inr (0, o)), some (.inr t), some (.inl (.int (nI (i + 1))))] d_Shop_init_122 rfl rfl rfl rfl (by rw [nI_1]; rfl) ?_
    refine ev_goto (tgt := 103) (by decide) d_Shop_init_125 ?_
    rw [show base + 1 * i + 1 = base + 1 * (i + 1) by omega]
    exact ih (i + 1) _ (by omega) (FILL.next h2 hA hfr ha (fun c hc => hP2 c hc) hF2) mc ms Post hk
set_option maxRecDepth 100000 in
set_option maxHeartbeats 4000000 in
theorem L_shopO (d : Nat) {f : Nat → RV} {t : Nat × Nat} {a base : Nat} (ho : G o = some (false, 9, 0, f)) (hf : f 6 = .inr (0, a)) (ha : a < base) (hob : o < base) (hoa : o ≠ a) : ∀ k i G1, i + k = 5 → FILL G a base 1 5 5 (fun _ _ => owlC) i G1 → ∀ mc ms Post, (∀ G2, FILL G a base 1 5 5 (fun _ _ => owlC) 5 G2 → Ev g (d + 1) m_Shop_init 154 [some (.inr (0, o)), some (.inr t), some (.inl (.int (nI 5)))] [] (G2, base + 1 * 5) mc ms Post) → Ev g (d + 1) m_Shop_init 130 [some (.inr (0, o)), some (.inr t), some (.inl (.int (nI i)))] [] (G1, base + 1 * i) (k * 1 + mc) (k * 5 + ms) Post := by
  intro k
  induction k with
  | zero =>
    intro i G1 hi hF mc ms Post hk
    obtain rfl : i = 5 := by omega
    refine ev_iload_n (k0 := 2) rfl d_Shop_init_130 ?_
    refine cw_iconst 5 d_Shop_init_131 rfl ?_
    refine ev_icmp_ge (tgt := 154) (by decide) d_Shop_init_132 (fun _ => ?_) (fun z => absurd (nI_le (Nat.le_refl 5) (by omega)) z)
    exact Ev.room (hk G1 hF) (by omega) (by omega)
  | succ k ih =>
    intro i G1 hi hF mc ms Post hk
    have hF9 := hF
    obtain ⟨⟨h, h1, h2⟩, hA, hfr⟩ := hF
    have hlt : i < 5 := by omega
    refine ev_iload_n (k0 := 2) rfl d_Shop_init_130 ?_
    refine cw_iconst 5 d_Shop_init_131 rfl ?_
    refine ev_icmp_ge (tgt := 154) (by decide) d_Shop_init_132 (fun z => absurd z (nI_ge (a := i) (b := 5) hlt (by omega))) (fun _ => ?_)
    refine ev_aload_n (k0 := 0) rfl d_Shop_init_135 ?_
    have ho1 : G1 o = some (false, 9, 0, f) := (hfr o (by omega) (by omega)).trans ho
    refine ev_getg (M := (_, _)) fg_Shop_33_9 (show rdM g (_, _) (0, _) = _ from ho1) d_Shop_init_136 ?_
    rw [hf]
    refine ev_iload_n (k0 := 2) rfl d_Shop_init_139 ?_
    refine Ev.room (mc := 0 + (k * 1 + mc) + 1) (ms := 0 + (k * 5 + ms) + 5) (ev_new (M := (G, 0)) coC_4 cl_Shop_31 in_Owl ii_Owl d_Shop_init_140 ?_) (by omega) (by omega)
    refine ev_dup rfl d_Shop_init_143 ?_
    refine ev_invIN (d := d) (vs := []) ln_Shop_66 (M_Owl_init d (o := base + 1 * i) wrG_S) rfl (Nat.le_of_ble_eq_true rfl) d_Shop_init_144 ⟨fun v M' hP => ?_, fun E M' hP => by obtain ⟨h9, -⟩ := hP; cases h9⟩
    obtain ⟨hv, hM, hP2, hF2⟩ := hP
    cases hv
    obtain ⟨G2, nx2⟩ := M'
    replace hM : nx2 = base + 1 * i + 1 := hM
    subst hM
    have hge : base ≤ base + 1 * i := by omega
    have g2 : G2 a = some (true, 5, 5, h) := (hF2 a (by omega)).trans ((wrG_N (by omega)).trans h1)
    obtain ⟨c9, e9, ce9⟩ := hP2 0 (by omega)
    obtain ⟨x1, x2, x3, x4⟩ := c9
    obtain ⟨y1, y2, y3, y4⟩ := ce9
    replace y1 : x1 = false := y1
    replace y2 : x2 = 4 := y2
    replace y3 : x3 = 0 := y3
    subst y1 y2 y3
    have hin : vp_in (nI i) 5 := vp_in_nI hlt (by omega)
    refine ev_aast (M := (G, 0)) (ci := 4) rfl rfl (by decide) g2 (show rdM g (G2, _) (0, base + 1 * i) = _ from e9) hin d_Shop_init_147 ?_
    rw [nI_clamp (show i < 2 ^ 31 by omega)]
    refine cw_iincN 2 1 [some (.inr (0, o)), some (.inr t), some (.inl (.int (nI (i + 1))))] d_Shop_init_148 rfl rfl rfl rfl (by rw [nI_1]; rfl) ?_
    refine ev_goto (tgt := 130) (by decide) d_Shop_init_151 ?_
    rw [show base + 1 * i + 1 = base + 1 * (i + 1) by omega]
    exact ih (i + 1) _ (by omega) (FILL.next h2 hA hfr ha (fun c hc => hP2 c hc) hF2) mc ms Post hk
end Loops

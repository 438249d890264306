/-! The constructors to their ends. -/
/-- the class's memory with i letters of the first text put -/
def pm : Nat → Mem
  | 0 => mu0
  | i + 1 => st3 (st3 (pm i) 20 0 i (sAt 1 (nI i))) 11 0 1 (nI (i + 1))
def TL : Nat := (sTx 1).length
theorem TL_v : TL < 800 := by decide +kernel
theorem sLen1 : sLen 1 = nI TL := rfl
theorem pm_len : ∀ i, pm i 11 0 1 = nI i := by
  intro i
  cases i with
  | zero => rfl
  | succ i => show st3 _ 11 0 1 _ 11 0 1 = _; rw [st3_ua, ua_S]
theorem pm_oth {K j f : Nat} (h : K ≠ 20) (h2 : K ≠ 11) : ∀ i, pm i K j f = mu0 K j f := by
  intro i
  induction i with
  | zero => rfl
  | succ i ih => show st3 (st3 _ 20 0 i _) 11 0 1 _ K j f = _; rw [st3_K h2, st3_K h]; exact ih
theorem pm_let : ∀ i k, k < i → pm i 20 0 k = sAt 1 (nI k) := by
  intro i
  induction i with
  | zero => intro k hk; omega
  | succ i ih =>
    intro k hk
    show st3 (st3 (pm i) 20 0 i _) 11 0 1 _ 20 0 k = _
    rw [st3_K (by omega), st3_ua]
    by_cases e : k = i
    · subst e; rw [ua_S]
    · rw [ua_N e]; exact ih k (by omega)
theorem pm_put {i : Nat} (h : i < TL) : f_Text_put (sAt 1 (nI i)) (pm i) = some (pm (i + 1)) := by
  have := TL_v
  unfold f_Text_put
  rw [pm_len, if_neg (show ¬ (800 : Int32) ≤ nI i from nI_ge (b := 800) (by omega) (by omega)), chk_of (inb_of (by omega) (by omega)), nI_clamp (by omega), nm_9, st3_K (by omega), pm_len, nm_9, nI_1]
  rfl
section Init
variable {g : GL} {F : RG}
theorem P_puts (d : Nat) (hS : SG g) {mc ms nx : Nat} {Post : RO → RM → Prop} : ∀ k i G, i + k = TL → LM vc 0 535 (pm i) F G → (∀ G', LM vc 0 535 (pm TL) F G' → Ev g (d + 6) m_P_init 203 [some (.inr (0, off 12 0)), some (.inl (.int (nI TL)))] [] (G', nx) mc ms Post) → Ev g (d + 6) m_P_init 175 [some (.inr (0, off 12 0)), some (.inl (.int (nI i)))] [] (G, nx) mc ms Post := by
  have hT := TL_v
  intro k
  induction k with
  | zero =>
    intro i G hi hG hk
    have e : i = TL := Nat.add_zero i ▸ hi
    rw [e] at hG ⊢
    refine ev_iload_n (k0 := 1) rfl d_P_init_175 ?_
    refine ev_ldcS st_1 d_P_init_176 ?_
    refine cv_slen hS (by omega) lj_ProphecyShop_84_14 rfl d_P_init_178 ?_
    refine ev_icmp_ge (tgt := 203) (by decide) d_P_init_181 (fun _ => ?_) (fun z => absurd (show sLen 1 ≤ nI TL from nI_le (Nat.le_refl TL) (by omega)) z)
    exact hk G hG
  | succ k ih =>
    intro i G hi hG hk
    have hlt : i < TL := by omega
    refine ev_iload_n (k0 := 1) rfl d_P_init_175 ?_
    refine ev_ldcS st_1 d_P_init_176 ?_
    refine cv_slen hS (by omega) lj_ProphecyShop_84_14 rfl d_P_init_178 ?_
    refine ev_icmp_ge (tgt := 203) (by decide) d_P_init_181 (fun z => absurd (show nI TL ≤ nI i from z) (nI_ge hlt (by omega))) (fun _ => ?_)
    refine ev_aload_n (k0 := 0) rfl d_P_init_184 ?_
    refine cv_get9 (.inr (0, off 11 0)) hG v_12 fg_ProphecyShop_10_12 rfl rfl d_P_init_185 ?_
    refine ev_ldcS st_1 d_P_init_188 ?_
    refine ev_iload_n (k0 := 1) rfl d_P_init_190 ?_
    refine cv_sat hS (by omega) (inb_of (show i < (sTx 1).length from hlt) (Nat.lt_trans TL_v (by decide))) lj_ProphecyShop_90_14 rfl d_P_init_191 ?_
    refine Ev.z9 (cv_V (d := d + 5) [.inl (.int (sAt 1 (nI i)))] hG v_11 rfl lk_ProphecyShop_94 (w_Text_put (d + 5) hG (pm_put hlt)) rfl rfl d_P_init_194 (aft_rw (fun G' hG' => ?_)))
    refine cw_iincN 1 1 [some (.inr (0, off 12 0)), some (.inl (.int (nI (i + 1))))] d_P_init_197 rfl rfl rfl rfl (by rw [nI_1]; rfl) ?_
    refine ev_goto (tgt := 175) (by decide) d_P_init_200 ?_
    exact ih (i + 1) G' (by omega) hG' hk
theorem M_P_init (d : Nat) (hS : SG g) {G : RG} {f : Nat → RV} (ho : G 0 = some (false, 12, 0, f)) {m : Mem} {er : Int32} (hm : f_P_openShop (pm TL) = some (er, m)) : Mt g (d + 11) m_P_init [.inr (0, 0)] (G, 1) 534 8029 (fun r M' => r = rV ∧ LM vc 0 535 m (fun _ => none) M'.1 ∧ M'.2 = 535) := by
  refine Mt.of9 [some (.inr (0, 0)), none] (by decide +kernel) rfl rfl rfl rfl ?_
  refine Ev.room (P_alloc (o := 0) (d + 8) 0 0 ho (fun G3 h1 _ => ?_)) (by omega) (by omega)
  refine Ev.norm (G' := MG mu0 0 535 (fun _ => none)) ?_ (alloc_norm h1)
  have hG : LM vc 0 535 (pm 0) (fun _ => none) (MG mu0 0 535 (fun _ => none)) := MG_c
  refine cw_iconst 0 d_P_init_173 rfl ?_
  refine cw_istoreN_n 1 0 rfl [some (.inr (0, 0)), some (.inl (.int 0))] d_P_init_174 rfl rfl rfl ?_
  refine P_puts (d + 5) hS TL 0 _ (Nat.zero_add _) hG (fun G' hG' => ?_)
  refine ev_aload_n (k0 := 0) rfl d_P_init_203 ?_
  refine Ev.z9 (cv_V (d := d + 10) [] hG' v_12 rfl lk_ProphecyShop_98 (w_P_openShop (d + 2) hS hG' hm) rfl rfl d_P_init_204 (aft_rw (fun G4 hG4 => ?_)))
  refine ev_pop rfl d_P_init_207 ?_
  exact ev_return (st := []) rfl d_P_init_208 ⟨rfl, hG4, rfl⟩
end Init

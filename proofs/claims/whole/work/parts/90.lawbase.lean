/-! The law's body: its state, the script, the tails of its cases. -/
/-- the law's locals at the call that begins at place i -/
def wLS (i : Nat) : List (Option RV) := [some (.inr (1, 90)), some (.inr (0, 0)), some (.inr (0, 535)), some (.inr (0, 547)), some (.inl (.int (nI i))), none, none, none, none]
def wLS2 (i : Nat) (a b : Option RV) : List (Option RV) := [some (.inr (1, 90)), some (.inr (0, 0)), some (.inr (0, 535)), some (.inr (0, 547)), some (.inl (.int (nI i))), a, b, none, none]
/-- how far the memory may have grown after n calls -/
def wB (n : Nat) : Nat := 548 + 1000100 * n
theorem wB_s {n : Nat} : wB (n + 1) = wB n + 1000100 := by
  unfold wB
  rw [Nat.mul_add, Nat.mul_one, Nat.add_assoc]
theorem wB_lt {n : Nat} (h : n < 512) : wB n < 512051748 := by
  unfold wB
  omega
/-- what stands after n calls -/
def wLI (μ ν : Mem) (l : List Nat) (G : RG) (nx n : Nat) : Prop := LM vc 0 535 μ G G ∧ LM vr 535 547 ν G G ∧ (∃ f, G 547 = some (true, 3, 1, f)) ∧ GR μ ν ∧ OUTM ν l ∧ OUTR G nx (μ 12 0 12) l ∧ 548 ≤ nx ∧ nx ≤ wB n
/-- what comes behind a call -/
def wKN (g : GL) (D i n mc ms : Nat) (Post : RO → RM → Prop) : Prop := ∀ {μ ν : Mem} {l : List Nat} {G : RG} {nx : Nat}, wLI μ ν l G nx (n + 1) → Ev g D m_law 2750 (wLS i) [] (G, nx) mc ms Post
theorem LM.far {μ : Mem} {G G1 : RG} {c : RC} {q : Nat} (h : LM vc 0 535 μ (wrG G 547 c) G1) (h1 : 535 ≤ q) (h2 : q ≠ 547) : G1 q = G q := (h.2 q (Or.inr h1)).trans (wrG_N h2)
theorem LM.farC {μ : Mem} {G G1 : RG} {c : RC} (h : LM vc 0 535 μ (wrG G 547 c) G1) : G1 547 = some c := (h.2 547 (Or.inr (by decide))).trans wrG_S
theorem LM.farR {μ ν : Mem} {G G1 : RG} {c : RC} (h : LM vc 0 535 μ (wrG G 547 c) G1) (hV : LM vr 535 547 ν G G) : LM vr 535 547 ν G1 G1 :=
  ⟨fun K j hv => (h.far (okR.2 K j hv).1 (by have := (okR.2 K j hv).2; omega)).trans (hV.1 K j hv), fun _ _ => rfl⟩
theorem OUTR.keep {G G1 : RG} {nx n1 : Nat} {x : Int32} {l : List Nat} (h : OUTR G nx x l) (hq : ∀ q, 548 ≤ q → q < nx → G1 q = G q) (h1 : nx ≤ n1) (h2 : n1 < 2 ^ 30) : OUTR G1 n1 x l := by
  obtain ⟨a1, a2, a3⟩ := h
  refine ⟨a1, a2, ?_⟩
  rcases a3 with a | ⟨s, b1, b2, b3, b4, b5⟩
  · exact Or.inl a
  · exact Or.inr ⟨s, b1, b2, by omega, h2, b5.keep (hq s b2 (by omega)) (hq (s + 1) (by omega) (by omega))⟩
theorem wLI.step {μ ν μ' ν' : Mem} {l : List Nat} {G G1 G2 : RG} {nx n1 n : Nat} {f : Nat → RV} (hI : wLI μ ν l G nx n) (hn : n < 512) (hW : LM vc 0 535 μ' (wrG G 547 (true, 3, 1, f)) G1) (h1 : nx ≤ n1) (h2 : n1 ≤ nx + 1000000) (hG2 : LM vr 535 547 ν' G1 G2) (hg : GR μ' ν') (h12 : μ' 12 0 12 = μ 12 0 12) (ho : outN ν ν') : wLI μ' ν' l G2 n1 (n + 1) ∧ G2 547 = some (true, 3, 1, f) := by
  obtain ⟨a1, a2, a3, a4, a5, a6, a7, a8⟩ := hI
  have e547 : G2 547 = some (true, 3, 1, f) := (hG2.2 547 (Or.inr (by decide))).trans hW.farC
  have b1 := wB_s (n := n)
  have b2 := wB_lt hn
  refine ⟨⟨⟨fun K j hv => (hG2.2 _ (Or.inl (okC.2 K j hv).2)).trans (hW.1 K j hv), fun _ _ => rfl⟩, ⟨hG2.1, fun _ _ => rfl⟩, ⟨f, e547⟩, hg, a5.fr ho, ?_, by omega, by omega⟩, e547⟩
  rw [h12]
  exact a6.keep (fun q q1 q2 => (hG2.2 q (Or.inr (by omega))).trans (hW.far (by omega) (by omega))) h1 (by omega)
section Law
variable {g : GL} {d : Nat} {xs : Nat → Int32} {L i n : Nat} {mc ms : Nat} {Post : RO → RM → Prop} {ls : List (Option RV)} {st : List RV} {M : RM}
/-- script[i + j] -/
theorem ev_arg (hs : g.2.2.2.2.2 90 = some (true, 0, L, fun q => .inl (.int (xs q)))) (hL : L ≤ 3584) {pc : Nat} (j : Nat) {k0 : Int} (hj : i + j < L) (hk : Int32.ofInt k0 = nI j) (h0 : ls[0]? = some (some (.inr (1, 90)))) (h4 : ls[4]? = some (some (.inl (.int (nI i)))))
    (d1 : decode code pc = .ok (.aload_n 0, 1)) (d2 : decode code (pc + 1) = .ok (.iload 4, 2)) (d3 : decode code (pc + 3) = .ok (.iconst k0, 1)) (d4 : decode code (pc + 4) = .ok (.iadd, 1)) (d5 : decode code (pc + 5) = .ok (.iaload, 1)) (k : Ev g d m_law (pc + 6) ls (.inl (.int (xs (i + j))) :: st) M mc ms Post) : Ev g d m_law pc ls st M mc ms Post := by
  refine ev_aload_n (k0 := 0) h0 d1 ?_
  refine ev_iload (i := 4) h4 d2 ?_
  refine ev_iconst d3 ?_
  rw [hk]
  refine ev_iadd d4 ?_
  rw [nI_add]
  refine ev_iald (n := L) (f := fun q => .inl (.int (xs q))) (show rdM g M (1, 90) = _ from hs) (vp_in_nI hj (by omega)) d5 ?_
  show Ev g d m_law (pc + 6) ls (.inl (.int (xs (nI (i + j)).toNatClampNeg)) :: st) M mc ms Post
  rw [nI_clamp (by omega)]
  exact k
theorem ev_arg6 (hs : g.2.2.2.2.2 90 = some (true, 0, L, fun q => .inl (.int (xs q)))) (hL : L ≤ 3584) {pc : Nat} (j : Nat) {k0 : Int} (hj : i + j < L) (hk : (Int8.ofInt k0).toInt32 = nI j) (h0 : ls[0]? = some (some (.inr (1, 90)))) (h4 : ls[4]? = some (some (.inl (.int (nI i)))))
    (d1 : decode code pc = .ok (.aload_n 0, 1)) (d2 : decode code (pc + 1) = .ok (.iload 4, 2)) (d3 : decode code (pc + 3) = .ok (.bipush k0, 2)) (d4 : decode code (pc + 5) = .ok (.iadd, 1)) (d5 : decode code (pc + 6) = .ok (.iaload, 1)) (k : Ev g d m_law (pc + 7) ls (.inl (.int (xs (i + j))) :: st) M mc ms Post) : Ev g d m_law pc ls st M mc ms Post := by
  refine ev_aload_n (k0 := 0) h0 d1 ?_
  refine ev_iload (i := 4) h4 d2 ?_
  refine ev_bipush d3 ?_
  rw [hk]
  refine ev_iadd d4 ?_
  rw [nI_add]
  refine ev_iald (n := L) (f := fun q => .inl (.int (xs q))) (show rdM g M (1, 90) = _ from hs) (vp_in_nI hj (by omega)) d5 ?_
  show Ev g d m_law (pc + 7) ls (.inl (.int (xs (nI (i + j)).toNatClampNeg)) :: st) M mc ms Post
  rw [nI_clamp (by omega)]
  exact k
/-- behind a wrapper -/
theorem aft_wr {mi : MI} {pc : Nat} {e : Int64} {th : Int32} {m : Mem} {G : RG} {nx : Nat} (k : ∀ G1 n1 f, LM vc 0 535 m (wrG G 547 (true, 3, 1, f)) G1 → nx ≤ n1 → n1 ≤ nx + 1000000 → (th = 0 → f 0 = .inl (.long e)) → Ev g d mi pc ls (.inl (.int th) :: st) (G1, n1) mc ms Post) : Aft g d mi pc ls st mc ms (WR e th m G nx) Post :=
  ⟨fun v M1 h => by
    obtain ⟨h1, f, h2, h3, h4, h5⟩ := h
    obtain ⟨G1, n1⟩ := M1
    cases h1
    exact k G1 n1 f h2 h3 h4 h5, fun E M1 h => by obtain ⟨h1, -⟩ := h; cases h1⟩
theorem lg_cmp_rf (x : Int64) : lg_cmp x x = 0 := by
  unfold lg_cmp
  rw [if_neg (show ¬ x > x from Int64.lt_irrefl), if_pos rfl]
theorem wLS2_sub {a b : Option RV} : LSb (wLS i) (wLS2 i a b) := LSb.s (LSb.s (LSb.s (LSb.s (LSb.s (LSb.n (LSb.n (LSb.n (LSb.n LSb.z))))))))
/-- the model's number is kept, thrown() is asked, the numbers are compared -/
def TailI (pc : Nat) (off : Int) : Prop := decode code pc = .ok (.istore 6, 2) ∧ decode code (pc + 2) = .ok (.aload_n 2, 1) ∧ decode code (pc + 3) = .ok (.invokevirtual 133, 3) ∧ decode code (pc + 6) = .ok (.iload 5, 2) ∧ decode code (pc + 8) = .ok (.if_icmp .eq 5, 3) ∧ decode code (pc + 13) = .ok (.iload 5, 2) ∧ decode code (pc + 15) = .ok (.ifCond .ne 15, 3) ∧ decode code (pc + 18) = .ok (.aload_n 3, 1) ∧ decode code (pc + 19) = .ok (.iconst 0, 1) ∧ decode code (pc + 20) = .ok (.laload, 1) ∧ decode code (pc + 21) = .ok (.iload 6, 2) ∧ decode code (pc + 23) = .ok (.i2l, 1) ∧ decode code (pc + 24) = .ok (.lcmp, 1) ∧ decode code (pc + 25) = .ok (.ifCond .eq 5, 3) ∧ decode code (pc + 30) = .ok (.goto off, 3) ∧ ((pc + 30 : Nat) : Int) + off = ((2750 : Nat) : Int)
def TailB (pc : Nat) (off : Int) : Prop := decode code pc = .ok (.istore 6, 2) ∧ decode code (pc + 2) = .ok (.aload_n 2, 1) ∧ decode code (pc + 3) = .ok (.invokevirtual 133, 3) ∧ decode code (pc + 6) = .ok (.iload 5, 2) ∧ decode code (pc + 8) = .ok (.if_icmp .eq 5, 3) ∧ decode code (pc + 13) = .ok (.iload 5, 2) ∧ decode code (pc + 15) = .ok (.ifCond .ne 22, 3) ∧ decode code (pc + 18) = .ok (.aload_n 3, 1) ∧ decode code (pc + 19) = .ok (.iconst 0, 1) ∧ decode code (pc + 20) = .ok (.laload, 1) ∧ decode code (pc + 21) = .ok (.iload 6, 2) ∧ decode code (pc + 23) = .ok (.ifCond .eq 7, 3) ∧ decode code (pc + 26) = .ok (.lconst 1, 1) ∧ decode code (pc + 27) = .ok (.goto 4, 3) ∧ decode code (pc + 30) = .ok (.lconst 0, 1) ∧ decode code (pc + 31) = .ok (.lcmp, 1) ∧ decode code (pc + 32) = .ok (.ifCond .eq 5, 3) ∧ decode code (pc + 37) = .ok (.goto off, 3) ∧ ((pc + 37 : Nat) : Int) + off = ((2750 : Nat) : Int)
theorem tgt9 {a b : Nat} {off : Int} (h : ((a + b : Nat) : Int) = (a : Int) + off) (c : Nat) (hc : c = a + b) : (a : Int) + off = (c : Int) := by subst hc; exact h.symm
theorem law_tailI {pc : Nat} {off : Int} (ht : TailI pc off) {μ' ν' : Mem} {l : List Nat} {G2 : RG} {n1 : Nat} {r th : Int32} {f : Nat → RV} (hI : wLI μ' ν' l G2 n1 (n + 1)) (hC : G2 547 = some (true, 3, 1, f)) (hth : ν' 13 0 7 = th) (hf : th = 0 → f 0 = .inl (.long r.toInt64)) (hk : wKN g (d + 40) i n mc ms Post) : Ev g (d + 40) m_law pc (wLS2 i (some (.inl (.int th))) none) [.inl (.int r)] (G2, n1) mc ms Post := by
  obtain ⟨t0, t2, t3, t6, t8, t13, t15, t18, t19, t20, t21, t23, t24, t25, t30, to⟩ := ht
  refine cw_istoreN 6 r rfl (wLS2 i (some (.inl (.int th))) (some (.inl (.int r)))) t0 rfl rfl rfl ?_
  refine ev_aload_n (k0 := 2) rfl t2 ?_
  refine Ev.z9 (cv_V (d := d + 39) [] hI.2.1 v_13 rfl lk_ProphecyShopLaw_133 (w_R_thrown (d + 39) (o := th) hI.2.1 (by unfold f_R_thrown; rw [hth])) rfl rfl t3 (aft_ro ?_))
  refine ev_iload (i := 5) rfl t6 ?_
  refine ev_icmp_eq (tgt := pc + 13) (by omega) t8 (fun _ => ?_) (fun z => absurd rfl z)
  refine ev_iload (i := 5) rfl t13 ?_
  have hend : Ev g (d + 40) m_law (pc + 30) (wLS2 i (some (.inl (.int th))) (some (.inl (.int r)))) [] (G2, n1) mc ms Post := by
    refine ev_goto (tgt := 2750) to t30 ?_
    exact Ev.sub wLS2_sub (hk hI)
  refine ev_if_ne (tgt := pc + 30) (by omega) t15 (fun _ => hend) (fun z => ?_)
  refine ev_aload_n (k0 := 3) rfl t18 ?_
  refine cw_iconst 0 t19 rfl ?_
  refine ev_lald (n := 1) (f := f) (show rdM g (G2, n1) (0, 547) = _ from hC) (show vp_in 0 1 from inb_vp (by decide)) t20 ?_
  rw [show (0 : Int32).toNatClampNeg = 0 by decide, hf z]
  refine ev_iload (i := 6) rfl t21 ?_
  refine ev_i2l t23 ?_
  refine ev_lcmp t24 ?_
  rw [lg_cmp_rf]
  exact ev_if_eq (tgt := pc + 30) (by omega) t25 (fun _ => hend) (fun z => absurd rfl z)
theorem law_tailB {pc : Nat} {off : Int} (ht : TailB pc off) {μ' ν' : Mem} {l : List Nat} {G2 : RG} {n1 : Nat} {r th : Int32} {f : Nat → RV} (hI : wLI μ' ν' l G2 n1 (n + 1)) (hC : G2 547 = some (true, 3, 1, f)) (hth : ν' 13 0 7 = th) (hf : th = 0 → f 0 = .inl (.long (bzL r))) (hk : wKN g (d + 40) i n mc ms Post) : Ev g (d + 40) m_law pc (wLS2 i (some (.inl (.int th))) none) [.inl (.int r)] (G2, n1) mc ms Post := by
  obtain ⟨t0, t2, t3, t6, t8, t13, t15, t18, t19, t20, t21, t23, t26, t27, t30, t31, t32, t37, to⟩ := ht
  refine cw_istoreN 6 r rfl (wLS2 i (some (.inl (.int th))) (some (.inl (.int r)))) t0 rfl rfl rfl ?_
  refine ev_aload_n (k0 := 2) rfl t2 ?_
  refine Ev.z9 (cv_V (d := d + 39) [] hI.2.1 v_13 rfl lk_ProphecyShopLaw_133 (w_R_thrown (d + 39) (o := th) hI.2.1 (by unfold f_R_thrown; rw [hth])) rfl rfl t3 (aft_ro ?_))
  refine ev_iload (i := 5) rfl t6 ?_
  refine ev_icmp_eq (tgt := pc + 13) (by omega) t8 (fun _ => ?_) (fun z => absurd rfl z)
  refine ev_iload (i := 5) rfl t13 ?_
  have hend : Ev g (d + 40) m_law (pc + 37) (wLS2 i (some (.inl (.int th))) (some (.inl (.int r)))) [] (G2, n1) mc ms Post := by
    refine ev_goto (tgt := 2750) to t37 ?_
    exact Ev.sub wLS2_sub (hk hI)
  refine ev_if_ne (tgt := pc + 37) (by omega) t15 (fun _ => hend) (fun z => ?_)
  refine ev_aload_n (k0 := 3) rfl t18 ?_
  refine cw_iconst 0 t19 rfl ?_
  refine ev_lald (n := 1) (f := f) (show rdM g (G2, n1) (0, 547) = _ from hC) (show vp_in 0 1 from inb_vp (by decide)) t20 ?_
  rw [show (0 : Int32).toNatClampNeg = 0 by decide, hf z]
  refine ev_iload (i := 6) rfl t21 ?_
  have hcmp : Ev g (d + 40) m_law (pc + 31) (wLS2 i (some (.inl (.int th))) (some (.inl (.int r)))) [.inl (.long (bzL r)), .inl (.long (bzL r))] (G2, n1) mc ms Post := by
    refine ev_lcmp t31 ?_
    rw [lg_cmp_rf]
    exact ev_if_eq (tgt := pc + 37) (by omega) t32 (fun _ => hend) (fun z => absurd rfl z)
  refine ev_if_eq (tgt := pc + 30) (by omega) t23 (fun c => ?_) (fun c => ?_)
  · refine ev_lconst (n := 0) t30 ?_
    rw [bzL_0 c] at hcmp ⊢
    exact hcmp
  · refine ev_lconst (n := 1) t26 ?_
    refine ev_goto (tgt := pc + 31) (by omega) t27 ?_
    rw [bzL_1 c] at hcmp ⊢
    exact hcmp
end Law

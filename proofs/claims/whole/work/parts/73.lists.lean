/-! A builder whose text is a list of letters. -/
theorem SB.cong {G : RG} {nx o a cap len : Nat} {tx tx' : Nat → Int32} (h : SB G nx o a cap len tx) (e : ∀ i, i < len → tx' i = tx i) : SB G nx o a cap len tx' := by
  obtain ⟨h1, ⟨bf, h2, h3, h4⟩, h5⟩ := h
  exact ⟨h1, ⟨bf, h2, fun i hi => (h3 i hi).trans (by rw [e i hi]), h4⟩, h5⟩
def ltx (l : List Nat) : Nat → Int32 := fun i => nI (l.getD i 0)
/-- a builder at o, made after G0's n0 cells; nothing older has changed -/
def BI (G0 : RG) (n0 o b : Nat) (l : List Nat) (M : RM) : Prop := ∃ a cap, SB M.1 M.2 o a cap l.length (ltx l) ∧ n0 ≤ o ∧ (n0 ≤ a ∧ M.2 ≤ n0 + b) ∧ ∀ q, q < n0 → M.1 q = G0 q
theorem BI.lm {G0 F : RG} {n0 o b : Nat} {l : List Nat} {M : RM} {μ : Mem} (h : BI G0 n0 o b l M) (hn : 535 ≤ n0) (hG : LM vc 0 535 μ F G0) : LM vc 0 535 μ M.1 M.1 := by
  obtain ⟨a, cap, -, -, -, h4⟩ := h
  exact ⟨fun K j hv => (h4 _ (by have := (okC.2 K j hv).2; omega)).trans (hG.1 K j hv), fun _ _ => rfl⟩
theorem BI.nx {G0 : RG} {n0 o b : Nat} {l : List Nat} {M : RM} (h : BI G0 n0 o b l M) : n0 ≤ M.2 := by
  obtain ⟨a, cap, h1, h2, -⟩ := h
  have := h1.2.2.2.1
  omega
theorem BI.step {G0 : RG} {n0 o b a a' cap' : Nat} {l' : List Nat} {M M' : RM} (h2 : n0 ≤ o) (h3 : n0 ≤ a ∧ M.2 ≤ n0 + b) (hn : n0 ≤ M.2) (h4 : ∀ q, q < n0 → M.1 q = G0 q) (h5 : SB M'.1 M'.2 o a' cap' l'.length (ltx l')) (h6 : a' = a ∨ M.2 ≤ a') (h7 : SBF M.2 o a M.1 M'.1 M'.2) : BI G0 n0 o (b + 1) l' M' :=
  ⟨a', cap', h5, h2, ⟨by omega, by have := h7.1.2; omega⟩, fun q hq => (h7.2 q (by omega) (by omega) (by omega)).trans (h4 q hq)⟩
theorem ltx_snoc {l : List Nat} {c i : Nat} (h : i < (l ++ [c]).length) : ltx (l ++ [c]) i = if i = l.length then nI c else ltx l i := by
  rw [List.length_append] at h
  replace h : i < l.length + 1 := h
  unfold ltx
  by_cases e : i = l.length
  · rw [if_pos e, e, getD_app2 (Nat.le_refl _), Nat.sub_self]
    rfl
  · rw [if_neg e, getD_app1 (by omega)]
theorem ltx_num {l : List Nat} {v i : Nat} (h : i < (l ++ digs v).length) : ltx (l ++ digs v) i = txI (ltx l) l.length v i := by
  rw [List.length_append, digs_len] at h
  unfold ltx txI
  by_cases e : i < l.length
  · rw [if_pos e, getD_app1 e]
  · rw [if_neg e, getD_app2 (by omega), digs_at (by omega), show dl v - 1 - (i - l.length) = l.length + dl v - 1 - i by omega]
section Rows
variable {g : GL} {d : Nat} {mi : MI} {pc : Nat} {ls : List (Option RV)} {st : List RV} {mc ms : Nat} {Post : RO → RM → Prop} {M : RM} {G0 : RG} {n0 o b idx : Nat} {l : List Nat}
theorem ev_appC {c : Nat} (hb : BI G0 n0 o b l M) (lk : LV mi.1.cls idx 1 1 m_StringBuilder_append_cf468) (hc : c < 128) (hl : l.length + 1 ≤ 71) (hst : Nat.ble st.length 4 = true) (hd : decode mi.2.1 pc = .ok (.invokevirtual idx, 3)) (k : ∀ M', BI G0 n0 o (b + 1) (l ++ [c]) M' → Ev g (d + 5) mi (pc + 3) ls (.inr (0, o) :: st) M' mc ms Post) : Ev g (d + 5) mi pc ls (.inl (.int (nI c)) :: .inr (0, o) :: st) M (1 + mc) (142 + ms) Post := by
  have hn := hb.nx
  obtain ⟨a, cap, h1, h2, h3, h4⟩ := hb
  obtain ⟨n, f, ho, -⟩ := id h1.1
  obtain ⟨G, nx⟩ := M
  refine ev_invV (d := d + 4) (vs := [.inl (.int (nI c))]) (M := (G, nx)) (r := (0, o)) (ci := 1) ho lk (M_appendC d h1 hl hc) rfl (Nat.le_of_ble_eq_true hst) hd ⟨fun w M' hP => ?_, fun E M' hP => ?_⟩
  · obtain ⟨hw, a', cap', p1, p2, p3⟩ := hP
    cases hw
    refine k M' (BI.step (M := (G, nx)) (cap' := cap') h2 h3 hn h4 ?_ p2 p3)
    rw [List.length_append]
    exact p1.cong (fun i hi => ltx_snoc (by rw [List.length_append]; exact hi))
  · obtain ⟨hw, -⟩ := hP
    cases hw
theorem ev_appI {v : Nat} (hD : DG g) (hb : BI G0 n0 o b l M) (lk : LV mi.1.cls idx 1 1 m_StringBuilder_append_bf812) (hv : v < 100000) (hl : l.length + dl v ≤ 71) (hst : Nat.ble st.length 4 = true) (hd : decode mi.2.1 pc = .ok (.invokevirtual idx, 3)) (k : ∀ M', BI G0 n0 o (b + 1) (l ++ digs v) M' → Ev g (d + 5) mi (pc + 3) ls (.inr (0, o) :: st) M' mc ms Post) : Ev g (d + 5) mi pc ls (.inl (.int (nI v)) :: .inr (0, o) :: st) M (1 + mc) (142 + ms) Post := by
  have hn := hb.nx
  obtain ⟨a, cap, h1, h2, h3, h4⟩ := hb
  obtain ⟨n, f, ho, -⟩ := id h1.1
  obtain ⟨G, nx⟩ := M
  refine ev_invV (d := d + 4) (vs := [.inl (.int (nI v))]) (M := (G, nx)) (r := (0, o)) (ci := 1) ho lk (M_appendI d hD h1 hl hv) rfl (Nat.le_of_ble_eq_true hst) hd ⟨fun w M' hP => ?_, fun E M' hP => ?_⟩
  · obtain ⟨hw, a', cap', p1, p2, p3⟩ := hP
    cases hw
    refine k M' (BI.step (M := (G, nx)) (cap' := cap') h2 h3 hn h4 ?_ p2 p3)
    rw [List.length_append, digs_len]
    exact p1.cong (fun i hi => ltx_num (by rw [List.length_append, digs_len]; exact hi))
  · obtain ⟨hw, -⟩ := hP
    cases hw
theorem ev_sbNew {ik ii : Nat} {G : RG} (hcl : Cond.classLink mi.1.cls ik "java/lang/StringBuilder" ∈ lw_good) (lk : LI mi.1.cls ii 0 m_StringBuilder_init_da8c8) (hst : Nat.ble st.length 3 = true) (hd1 : decode mi.2.1 pc = .ok (.new ik, 3)) (hd2 : decode mi.2.1 (pc + 3) = .ok (.dup, 1)) (hd3 : decode mi.2.1 (pc + 3 + 1) = .ok (.invokespecial ii, 3)) (k : ∀ M', BI G n0 n0 2 [] M' → Ev g (d + 2) mi (pc + 3 + 1 + 3) ls (.inr (0, n0) :: st) M' mc ms Post) : Ev g (d + 2) mi pc ls st (G, n0) (1 + mc + 1) (16 + ms + 4) Post := by
  refine ev_new (M := (G, n0)) coC_1 hcl in_StringBuilder ii_StringBuilder hd1 ?_
  refine ev_dup rfl hd2 ?_
  refine ev_invI (d := d + 1) (vs := []) lk (M_sbInit d (tx := ltx []) (nx := n0 + 1) wrG_S rfl (by omega)) rfl (by have := Nat.le_of_ble_eq_true hst; show st.length + 1 ≤ 4; omega) hd3 ⟨fun w M' hP => ?_, fun E M' hP => ?_⟩
  · obtain ⟨hw, p1, p2, p3⟩ := hP
    cases hw
    exact k M' ⟨n0 + 1, 16, p1, Nat.le_refl _, ⟨by omega, by omega⟩, fun q hq => (p3 q (by omega) (by omega)).trans (wrG_N (by omega))⟩
  · obtain ⟨hw, -⟩ := hP
    cases hw
theorem ev_toStr (hb : BI G0 n0 o b l M) (lk : LV mi.1.cls idx 1 0 m_StringBuilder_toString_0e30d) (hst : Nat.ble st.length 4 = true) (hd : decode mi.2.1 pc = .ok (.invokevirtual idx, 3)) (k : ∀ G' s, STo G' s (s + 1) l.length (ltx l) → n0 ≤ s → s ≤ n0 + b → (∀ q, q < n0 → G' q = G0 q) → Ev g (d + 6) mi (pc + 3) ls (.inr (0, s) :: st) (G', s + 2) mc ms Post) : Ev g (d + 6) mi pc ls (.inr (0, o) :: st) M (2 + mc) (146 + ms) Post := by
  have hn := hb.nx
  obtain ⟨a, cap, h1, h2, h3, h4⟩ := hb
  obtain ⟨n, f, ho, -⟩ := id h1.1
  obtain ⟨G, nx⟩ := M
  have hlc : l.length ≤ 142 := by
    have a1 := h1.2.2.2.2.2.1
    have a2 := h1.2.2.2.2.2.2
    omega
  refine ev_invV (d := d + 5) (vs := []) (M := (G, nx)) (r := (0, o)) (ci := 1) ho lk (M_toString d h1 hlc) rfl (Nat.le_of_ble_eq_true hst) hd ⟨fun w M' hP => ?_, fun E M' hP => ?_⟩
  · obtain ⟨hw, p1, p2, p3⟩ := hP
    cases hw
    obtain ⟨G', nx'⟩ := M'
    have p1' : nx' = nx + 2 := p1
    subst p1'
    exact k G' nx p2 hn h3.2 (fun q hq => (p3 q (Nat.lt_of_lt_of_le hq hn)).trans (h4 q hq))
  · obtain ⟨hw, -⟩ := hP
    cases hw
end Rows
/-- five bits of a name's number -/
theorem shr5 {c : Nat} (hc : c < 2 ^ 30) : ∀ k, k < 6 → (nI c >>> (nI (5 * k) &&& 31)) &&& 31 = nI (c / 32 ^ k % 32) := by
  have hm : (BitVec.ofNat 32 c).msb = false := by
    rw [BitVec.msb_eq_false_iff_two_mul_lt, BitVec.toNat_ofNat, Nat.mod_eq_of_lt (by omega)]
    omega
  have key : ∀ n, ((BitVec.ofNat 32 c).sshiftRight n &&& 31#32) = BitVec.ofNat 32 (c / 2 ^ n % 32) := by
    intro n
    rw [BitVec.sshiftRight_eq_of_msb_false hm]
    apply BitVec.eq_of_toNat_eq
    rw [BitVec.toNat_and, BitVec.toNat_ushiftRight, BitVec.toNat_ofNat, BitVec.toNat_ofNat, BitVec.toNat_ofNat, Nat.mod_eq_of_lt (show c < 2 ^ 32 by omega), Nat.shiftRight_eq_div_pow, Nat.mod_eq_of_lt (show c / 2 ^ n % 32 < 2 ^ 32 by omega)]
    exact Nat.and_two_pow_sub_one_eq_mod (c / 2 ^ n) 5
  intro k hk
  apply Int32.toBitVec_inj.mp
  rw [nI_bv]
  rcases (show k = 0 ∨ k = 1 ∨ k = 2 ∨ k = 3 ∨ k = 4 ∨ k = 5 by omega) with rfl | rfl | rfl | rfl | rfl | rfl
  · exact key 0
  · exact key 5
  · exact key 10
  · exact key 15
  · exact key 20
  · exact key 25

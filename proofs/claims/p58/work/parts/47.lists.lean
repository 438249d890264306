/-- a builder at o, made after G0's n0 cells; nothing older has changed -/
def BI (B : Nat) (G0 : RG) (n0 o b : Nat) (l : List Nat) (M : RM) : Prop := ∃ a cap, SB B M.1 M.2 o a cap l.length (ltx l) ∧ n0 ≤ o ∧ (n0 ≤ a ∧ M.2 ≤ n0 + b) ∧ ∀ q, q < n0 → M.1 q = G0 q
theorem BI.lm {B : Nat} {G0 F : RG} {n0 o b : Nat} {l : List Nat} {M : RM} {μ : Mem} (h : BI B G0 n0 o b l M) (hn : 535 ≤ n0) (hG : LM vc 0 535 μ F G0) : LM vc 0 535 μ M.1 M.1 := by
  obtain ⟨a, cap, -, -, -, h4⟩ := h
  exact ⟨fun K j hv => (h4 _ (by have := (okC.2 K j hv).2; omega)).trans (hG.1 K j hv), fun _ _ => rfl⟩
theorem BI.nx {B : Nat} {G0 : RG} {n0 o b : Nat} {l : List Nat} {M : RM} (h : BI B G0 n0 o b l M) : n0 ≤ M.2 := by
  obtain ⟨a, cap, h1, h2, -⟩ := h
  have := h1.2.2.2.1
  omega
theorem BI.step {B : Nat} {G0 : RG} {n0 o b a a' cap' : Nat} {l' : List Nat} {M M' : RM} (h2 : n0 ≤ o) (h3 : n0 ≤ a ∧ M.2 ≤ n0 + b) (hn : n0 ≤ M.2) (h4 : ∀ q, q < n0 → M.1 q = G0 q) (h5 : SB B M'.1 M'.2 o a' cap' l'.length (ltx l')) (h6 : a' = a ∨ M.2 ≤ a') (h7 : SBF M.2 o a M.1 M'.1 M'.2) : BI B G0 n0 o (b + 1) l' M' :=
  ⟨a', cap', h5, h2, ⟨by omega, by have := h7.1.2; omega⟩, fun q hq => (h7.2 q (by omega) (by omega) (by omega)).trans (h4 q hq)⟩
theorem ltx_snoc {l : List Nat} {c i : Nat} (h : i < (l ++ [c]).length) : ltx (l ++ [c]) i = if i = l.length then nI c else ltx l i := by
  rw [List.length_append] at h
  replace h : i < l.length + 1 := h
  unfold ltx
  by_cases e : i = l.length
  · rw [if_pos e, e, getD_app2 (Nat.le_refl _), Nat.sub_self]
    rfl
  · rw [if_neg e, getD_app1 (by omega)]
theorem ltx_num {l : List Nat} {v i : Nat} (h : i < (l ++ digs v).length) : ltx (l ++ digs v) i = txI (ltx l) l.length v i := by
  rw [List.length_append, digs_len] at h
  unfold ltx txI
  by_cases e : i < l.length
  · rw [if_pos e, getD_app1 e]
  · rw [if_neg e, getD_app2 (by omega), digs_at (by omega), show dl v - 1 - (i - l.length) = l.length + dl v - 1 - i by omega]
section Rows
variable {g : GL} {d : Nat} {mi : MI} {pc : Nat} {ls : List (Option RV)} {st : List RV} {mc ms : Nat} {Post : RO → RM → Prop} {M : RM} {G0 : RG} {B n0 o b idx : Nat} {l : List Nat}
theorem ev_appC {c : Nat} (hb : BI B G0 n0 o b l M) (lk : LV mi.1.cls idx 1 1 m_StringBuilder_append_cf468) (hc : c < 128) (hl : l.length + 1 ≤ B) (hst : Nat.ble st.length 4 = true) (hd : decode mi.2.1 pc = .ok (.invokevirtual idx, 3)) (k : ∀ M', BI B G0 n0 o (b + 1) (l ++ [c]) M' → Ev g (d + 5) mi (pc + 3) ls (.inr (0, o) :: st) M' mc ms Post) : Ev g (d + 5) mi pc ls (.inl (.int (nI c)) :: .inr (0, o) :: st) M (1 + mc) (2 * B + ms) Post := by
  have hn := hb.nx
  obtain ⟨a, cap, h1, h2, h3, h4⟩ := hb
  obtain ⟨n, f, ho, -⟩ := id h1.1
  obtain ⟨G, nx⟩ := M
  refine ev_invV (d := d + 4) (vs := [.inl (.int (nI c))]) (M := (G, nx)) (r := (0, o)) (ci := 1) ho lk (M_appendC d h1 hl hc) rfl (Nat.le_of_ble_eq_true hst) hd ⟨fun w M' hP => ?_, fun E M' hP => ?_⟩
  · obtain ⟨hw, a', cap', p1, p2, p3⟩ := hP
    cases hw
    refine k M' (BI.step (M := (G, nx)) (cap' := cap') h2 h3 hn h4 ?_ p2 p3)
    rw [List.length_append]
    exact p1.cong (fun i hi => ltx_snoc (by rw [List.length_append]; exact hi))
  · obtain ⟨hw, -⟩ := hP
    cases hw
theorem ev_appI {v : Nat} (hD : DG g) (hb : BI B G0 n0 o b l M) (lk : LV mi.1.cls idx 1 1 m_StringBuilder_append_bf812) (hv : v < 100000) (hl : l.length + dl v ≤ B) (hst : Nat.ble st.length 4 = true) (hd : decode mi.2.1 pc = .ok (.invokevirtual idx, 3)) (k : ∀ M', BI B G0 n0 o (b + 1) (l ++ digs v) M' → Ev g (d + 5) mi (pc + 3) ls (.inr (0, o) :: st) M' mc ms Post) : Ev g (d + 5) mi pc ls (.inl (.int (nI v)) :: .inr (0, o) :: st) M (1 + mc) (2 * B + ms) Post := by
  have hn := hb.nx
  obtain ⟨a, cap, h1, h2, h3, h4⟩ := hb
  obtain ⟨n, f, ho, -⟩ := id h1.1
  obtain ⟨G, nx⟩ := M
  refine ev_invV (d := d + 4) (vs := [.inl (.int (nI v))]) (M := (G, nx)) (r := (0, o)) (ci := 1) ho lk (M_appendI d hD h1 hl hv) rfl (Nat.le_of_ble_eq_true hst) hd ⟨fun w M' hP => ?_, fun E M' hP => ?_⟩
  · obtain ⟨hw, a', cap', p1, p2, p3⟩ := hP
    cases hw
    refine k M' (BI.step (M := (G, nx)) (cap' := cap') h2 h3 hn h4 ?_ p2 p3)
    rw [List.length_append, digs_len]
    exact p1.cong (fun i hi => ltx_num (by rw [List.length_append, digs_len]; exact hi))
  · obtain ⟨hw, -⟩ := hP
    cases hw
theorem ltx_app {l l2 : List Nat} {i : Nat} : ltx (l ++ l2) i = txS (ltx l) l.length l2 i := by
  unfold ltx txS
  by_cases e : i < l.length
  · rw [if_pos e, getD_app1 e]
  · rw [if_neg e, getD_app2 (by omega)]
theorem BI.at {B : Nat} {G0 : RG} {n0 o b : Nat} {l l' : List Nat} {M : RM} (h : BI B G0 n0 o b l M) (e : l = l') : BI B G0 n0 o b l' M := by subst e; exact h
theorem BI.le {B : Nat} {G0 : RG} {n0 o b b' : Nat} {l : List Nat} {M : RM} (h : BI B G0 n0 o b l M) (e : b ≤ b') : BI B G0 n0 o b' l M := by
  obtain ⟨a, cap, h1, h2, h3, h4⟩ := h
  exact ⟨a, cap, h1, h2, ⟨h3.1, by omega⟩, h4⟩
theorem SB.more {B : Nat} {G G' : RG} {nx nx' o a cap len : Nat} {tx : Nat → Int32} (h : SB B G nx o a cap len tx) (hn : nx ≤ nx') (ho : G' o = G o) (ha : G' a = G a) : SB B G' nx' o a cap len tx := by
  obtain ⟨⟨n, f, h1⟩, ⟨bf, h2⟩, h3, h4, h5, h6⟩ := h
  rw [← ho] at h1
  rw [← ha] at h2
  exact ⟨⟨n, f, h1⟩, ⟨bf, h2⟩, h3, by omega, by omega, h6⟩
/-- cells have been made behind the builder -/
theorem BI.more {B : Nat} {G0 : RG} {n0 o b k : Nat} {l : List Nat} {M M' : RM} (h : BI B G0 n0 o b l M) (hn : M.2 ≤ M'.2 ∧ M'.2 ≤ M.2 + k) (hF : ∀ q, q < M.2 → M'.1 q = M.1 q) : BI B G0 n0 o (b + k) l M' := by
  have hx := h.nx
  obtain ⟨a, cap, h1, h2, h3, h4⟩ := h
  exact ⟨a, cap, h1.more hn.1 (hF o h1.2.2.2.1) (hF a h1.2.2.2.2.1), h2, ⟨h3.1, by omega⟩, fun q hq => (hF q (by omega)).trans (h4 q hq)⟩
/-- a String is laid into the builder; the builder stood before the String was made -/
theorem ev_appS {k9 : Nat} {M0 : RM} {r v : Nat × Nat} {l2 : List Nat} (hb : BI B G0 n0 o b l M0) (hn : M0.2 ≤ M.2 ∧ M.2 ≤ M0.2 + k9) (hF : ∀ q, q < M0.2 → M.1 q = M0.1 q) (hs : SR g M r v l2) (hv : v.1 = 0 → M0.2 ≤ v.2) (lk : LV mi.1.cls idx 1 1 m_StringBuilder_append_15ec4) (hl : l.length + l2.length ≤ B) (hst : Nat.ble st.length 4 = true) (hd : decode mi.2.1 pc = .ok (.invokevirtual idx, 3)) (k : ∀ M', BI B G0 n0 o (b + k9 + 1) (l ++ l2) M' → Ev g (d + 5) mi (pc + 3) ls (.inr (0, o) :: st) M' mc ms Post) : Ev g (d + 5) mi pc ls (.inr r :: .inr (0, o) :: st) M (1 + mc) (2 * B + ms) Post := by
  have ha9 : ∀ a cap, SB B M0.1 M0.2 o a cap l.length (ltx l) → v ≠ (0, a) := fun a cap h z => by
    have := hv (by rw [z])
    rw [z] at this
    have h2 := h.2.2.2.2.1
    have h3 : M0.2 ≤ a := this
    omega
  have hx := hb.nx
  obtain ⟨a, cap, h1, h2, h3, h4⟩ := hb
  have h9 := ha9 a cap h1
  have h1' := h1.more hn.1 (hF o h1.2.2.2.1) (hF a h1.2.2.2.2.1)
  obtain ⟨n, f, ho, -⟩ := id h1'.1
  obtain ⟨G, nx⟩ := M
  obtain ⟨Gx, nx0⟩ := M0
  refine ev_invV (d := d + 4) (vs := [.inr r]) (M := (G, nx)) (r := (0, o)) (ci := 1) ho lk (M_appendS d h1' hs h9 hl) rfl (Nat.le_of_ble_eq_true hst) hd ⟨fun w M' hP => ?_, fun E M' hP => ?_⟩
  · obtain ⟨hw, a', cap', p1, p2, p3⟩ := hP
    cases hw
    refine k M' (BI.step (M := (G, nx)) (cap' := cap') h2 (b := b + k9) ⟨h3.1, by have := hn.2; have := h3.2; show nx ≤ n0 + (b + k9); omega⟩ (show n0 ≤ nx by have := hn.1; omega) (fun q hq => (hF q (by show q < nx0; omega)).trans (h4 q hq)) ?_ p2 p3)
    rw [List.length_append]
    exact p1.cong (fun i hi => ltx_app)
  · obtain ⟨hw, -⟩ := hP
    cases hw
theorem ev_sbNew {ik ii : Nat} {G : RG} (hB : 8 ≤ B ∧ B ≤ 1000) (hcl : Cond.classLink mi.1.cls ik "java/lang/StringBuilder" ∈ lw_good) (lk : LI mi.1.cls ii 0 m_StringBuilder_init_da8c8) (hst : Nat.ble st.length 3 = true) (hd1 : decode mi.2.1 pc = .ok (.new ik, 3)) (hd2 : decode mi.2.1 (pc + 3) = .ok (.dup, 1)) (hd3 : decode mi.2.1 (pc + 3 + 1) = .ok (.invokespecial ii, 3)) (k : ∀ M', BI B G n0 n0 2 [] M' → Ev g (d + 2) mi (pc + 3 + 1 + 3) ls (.inr (0, n0) :: st) M' mc ms Post) : Ev g (d + 2) mi pc ls st (G, n0) (1 + mc + 1) (16 + ms + 4) Post := by
  refine ev_new (M := (G, n0)) coC_1 hcl in_StringBuilder ii_StringBuilder hd1 ?_
  refine ev_dup rfl hd2 ?_
  refine ev_invI (d := d + 1) (vs := []) lk (M_sbInit d hB (tx := ltx []) (nx := n0 + 1) wrG_S rfl (by omega)) rfl (by have := Nat.le_of_ble_eq_true hst; show st.length + 1 ≤ 4; omega) hd3 ⟨fun w M' hP => ?_, fun E M' hP => ?_⟩
  · obtain ⟨hw, p1, p2, p3⟩ := hP
    cases hw
    exact k M' ⟨n0 + 1, 16, p1, Nat.le_refl _, ⟨by omega, by omega⟩, fun q hq => (p3 q (by omega) (by omega)).trans (wrG_N (by omega))⟩
  · obtain ⟨hw, -⟩ := hP
    cases hw
theorem ev_toStr (hb : BI B G0 n0 o b l M) (lk : LV mi.1.cls idx 1 0 m_StringBuilder_toString_0e30d) (hst : Nat.ble st.length 4 = true) (hd : decode mi.2.1 pc = .ok (.invokevirtual idx, 3)) (k : ∀ G' s, STo G' s (s + 1) l.length (ltx l) → n0 ≤ s → s ≤ n0 + b → (∀ q, q < n0 → G' q = G0 q) → Ev g (d + 6) mi (pc + 3) ls (.inr (0, s) :: st) (G', s + 2) mc ms Post) : Ev g (d + 6) mi pc ls (.inr (0, o) :: st) M (2 + mc) (2 * B + 4 + ms) Post := by
  have hn := hb.nx
  obtain ⟨a, cap, h1, h2, h3, h4⟩ := hb
  obtain ⟨n, f, ho, -⟩ := id h1.1
  obtain ⟨G, nx⟩ := M
  have hlc : l.length ≤ 4000 := by
    have a1 := h1.2.2.2.2.2.1
    have a2 := h1.2.2.2.2.2.2
    omega
  refine ev_invV (d := d + 5) (vs := []) (M := (G, nx)) (r := (0, o)) (ci := 1) ho lk (M_toString d h1 hlc) rfl (Nat.le_of_ble_eq_true hst) hd ⟨fun w M' hP => ?_, fun E M' hP => ?_⟩
  · obtain ⟨hw, p1, p2, p3⟩ := hP
    cases hw
    obtain ⟨G', nx'⟩ := M'
    have p1' : nx' = nx + 2 := p1
    subst p1'
    exact k G' nx p2 hn h3.2 (fun q hq => (p3 q (Nat.lt_of_lt_of_le hq hn)).trans (h4 q hq))
  · obtain ⟨hw, -⟩ := hP
    cases hw
theorem ev_sbNewS {ik ii : Nat} {G : RG} {r v : Nat × Nat} {idxS : Nat} (hB : 8 ≤ B ∧ B ≤ 1000) (hcl : Cond.classLink mi.1.cls ik "java/lang/StringBuilder" ∈ lw_good) (lk : LI mi.1.cls ii 1 m_StringBuilder_init_a7421) (hs : SR g (G, n0) r v l) (hl : l.length ≤ B) (hl2 : l.length + 16 ≤ 2 * B) (hst : Nat.ble st.length 2 = true) (hd1 : decode mi.2.1 pc = .ok (.new ik, 3)) (hd2 : decode mi.2.1 (pc + 3) = .ok (.dup, 1))
    (hld : ∀ M mc9 ms9, Ev g (d + 8) mi (pc + 3 + 1 + 2) ls (.inr r :: .inr (0, n0) :: .inr (0, n0) :: st) M mc9 ms9 Post → Ev g (d + 8) mi (pc + 3 + 1) ls (.inr (0, n0) :: .inr (0, n0) :: st) M mc9 ms9 Post) (hd3 : decode mi.2.1 (pc + 3 + 1 + 2) = .ok (.invokespecial ii, 3)) (k : ∀ M', BI B G n0 n0 3 l M' → Ev g (d + 8) mi (pc + 3 + 1 + 2 + 3) ls (.inr (0, n0) :: st) M' mc ms Post) : Ev g (d + 8) mi pc ls st (G, n0) (2 + mc + 1) (l.length + 16 + 2 * B + ms + 4) Post := by
  refine ev_new (M := (G, n0)) coC_1 hcl in_StringBuilder ii_StringBuilder hd1 ?_
  refine ev_dup rfl hd2 ?_
  refine hld _ _ _ ?_
  refine ev_invI (d := d + 7) (vs := [.inr r]) lk (M_sbInitS (nx := n0 + 1) d hB wrG_S rfl (by omega) (hs.keep (by omega) (fun q q1 _ => wrG_N (by omega))) hl hl2) rfl (by have := Nat.le_of_ble_eq_true hst; show st.length + 1 ≤ 4; omega) hd3 ⟨fun w M' hP => ?_, fun E M' hP => ?_⟩
  · obtain ⟨hw, a', cap', p1, p2, p3, p4⟩ := hP
    cases hw
    exact k M' ⟨a', cap', p1, Nat.le_refl _, ⟨by omega, by omega⟩, fun q hq => (p4 q (by omega) (by omega)).trans (wrG_N (by omega))⟩
  · obtain ⟨hw, -⟩ := hP
    cases hw
end Rows
/-- five bits of a name's number -/
theorem shr5 {c : Nat} (hc : c < 2 ^ 30) : ∀ k, k < 6 → (nI c >>> (nI (5 * k) &&& 31)) &&& 31 = nI (c / 32 ^ k % 32) := by
  have hm : (BitVec.ofNat 32 c).msb = false := by
    rw [BitVec.msb_eq_false_iff_two_mul_lt, BitVec.toNat_ofNat, Nat.mod_eq_of_lt (by omega)]
    omega
  have key : ∀ n, ((BitVec.ofNat 32 c).sshiftRight n &&& 31#32) = BitVec.ofNat 32 (c / 2 ^ n % 32) := by
    intro n
    rw [BitVec.sshiftRight_eq_of_msb_false hm]
    apply BitVec.eq_of_toNat_eq
    rw [BitVec.toNat_and, BitVec.toNat_ushiftRight, BitVec.toNat_ofNat, BitVec.toNat_ofNat, BitVec.toNat_ofNat, Nat.mod_eq_of_lt (show c < 2 ^ 32 by omega), Nat.shiftRight_eq_div_pow, Nat.mod_eq_of_lt (show c / 2 ^ n % 32 < 2 ^ 32 by omega)]
    exact Nat.and_two_pow_sub_one_eq_mod (c / 2 ^ n) 5
  intro k hk
  apply Int32.toBitVec_inj.mp
  rw [nI_bv]
  rcases (show k = 0 ∨ k = 1 ∨ k = 2 ∨ k = 3 ∨ k = 4 ∨ k = 5 by omega) with rfl | rfl | rfl | rfl | rfl | rfl
  · exact key 0
  · exact key 5
  · exact key 10
  · exact key 15
  · exact key 20
  · exact key 25

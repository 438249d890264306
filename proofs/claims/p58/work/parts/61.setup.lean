/-! The class reads the shop that the law has written. -/
/-- a letter stands first, or nothing -/
def gd (r : List Nat) : Prop := ∀ x, r.head? = some x → isL x
theorem gd.nbl {r : List Nat} (h : gd r) : nbl r := fun x hx => by
  have := h x hx
  unfold isL at this
  omega
theorem gd_w {w r : List Nat} (h0 : w ≠ []) (h : ∀ x ∈ w, isL x) : gd (w ++ r) := fun x hx => by
  cases w with
  | nil => exact absurd rfl h0
  | cons y w =>
    have e : y = x := Option.some.inj hx
    rw [← e]
    exact h y (List.mem_cons_self ..)
theorem nbl_dig {v : Nat} {r : List Nat} : nbl (digs v ++ r) := by
  obtain ⟨dl1, -⟩ := dl_le (w := v)
  intro x hx
  have hl := digs_len (v := v)
  cases hd : digs v with
  | nil => rw [hd] at hl; simp at hl; omega
  | cons y w =>
    rw [hd] at hx
    have e : y = x := Option.some.inj hx
    rw [← e]
    have hm : y ∈ digs v := by rw [hd]; exact List.mem_cons_self ..
    unfold digs at hm
    obtain ⟨j, -, e9⟩ := List.mem_map.mp hm
    omega
theorem hd32 {r : List Nat} {Q : Nat → Prop} (h : ¬ Q 32) : ∀ x, ([32] ++ r).head? = some x → ¬ Q x := fun x hx => by
  replace hx : some 32 = some x := hx
  cases hx
  exact h
theorem hd59 {r : List Nat} {Q : Nat → Prop} (h : ¬ Q 59) : ∀ x, ([] ++ ([59] ++ r)).head? = some x → ¬ Q x := fun x hx => by
  replace hx : some 59 = some x := hx
  cases hx
  exact h
theorem nbl59 {r : List Nat} : nbl ([59] ++ r) := fun x hx => by
  replace hx : some 59 = some x := hx
  cases hx
  omega
theorem nbl_nm {p q : Nat} {r : List Nat} : nbl ([96 + p, 96 + q] ++ r) := fun x hx => by
  replace hx : some (96 + p) = some x := hx
  cases hx
  omega
/-- a word of the same length that begins otherwise -/
theorem RD.seesX {m : Mem} {w r : List Nat} {wi : Nat} (h : RD m (w ++ r)) (ht : TK w r 1) (hl : (sTx wi).length = w.length) (hl2 : 1 ≤ w.length ∧ w.length ≤ 20) (hne : (sTx wi).getD 0 0 ≠ nI (w.getD 0 0)) : f_Reader_sees 8 wi m = some 0 := by
  obtain ⟨B, L, b, h1, h2, h3, h4, h5, h6⟩ := h
  obtain ⟨e1, e2⟩ := tok_E h2 ht
  have hL := h1.1
  have hlen := h2.1
  rw [List.length_append] at hlen
  have es : sLen wi = nI w.length := by unfold sLen; rw [hl]; rfl
  unfold f_Reader_sees
  rw [h6, if_pos rfl, h4, e2, if_pos rfl, h5, e1, h3, lenI, es, if_pos rfl]
  have key : it (fun (s : Int32) => s_Reader_sees_35 8 wi s m) LIM 0 = some (.inr 0) := by
    suffices H : ∃ r, it (fun (s : Int32) => s_Reader_sees_35 8 wi s m) LIM 0 = some r ∧ r = .inr 0 by
      obtain ⟨r, a, rfl⟩ := H
      exact a
    refine it_for (fun i q => q = nI i) (fun q => q = (.inr 0 : Unit ⊕ Int32)) 0 0 (by omega) (by omega) rfl (fun i hi q hq => absurd hi (Nat.not_lt_zero _)) (fun q hq => ?_)
    subst hq
    refine ⟨_, ?_, rfl⟩
    unfold s_Reader_sees_35
    rw [es, if_neg (nI_ge (show 0 < w.length by omega) (by omega)), h3, nI_add, C_at h1 (by omega), bind_s, if_pos (show b + 0 < L by omega), chk_of (inb_of (by omega) (by omega)), h2.hd (show 0 < w.length by omega), if_neg (show ¬ nI (w.getD 0 0) = sAt wi (nI 0) from fun z => hne z.symm)]
  rw [key, bind_s]
  rfl
/-- nothing, or another word -/
def OTH (wi : Nat) (r : List Nat) : Prop := r = [] ∨ ∃ w r', r = w ++ ([32] ++ r') ∧ w ≠ [] ∧ (∀ x ∈ w, isL x) ∧ w.length ≤ 20 ∧ (sTx wi).length ≤ 20 ∧ ((sTx wi).length ≠ w.length ∨ (sTx wi).getD 0 0 ≠ nI (w.getD 0 0))
theorem RD.oth {m : Mem} {r : List Nat} {wi : Nat} (h : RD m r) (ho : OTH wi r) : f_Reader_sees 8 wi m = some 0 := by
  rcases ho with rfl | ⟨w, r', rfl, h0, h1, h2, h3, h4⟩
  · exact h.sees0 (Or.inl rfl)
  · have ht : TK w ([32] ++ r') 1 := Or.inl ⟨rfl, h0, h1, hd32 (Q := isL) (by decide)⟩
    have hw : w.length ≠ 0 := fun z => h0 (List.length_eq_zero_iff.mp z)
    by_cases e : (sTx wi).length = w.length
    · exact h.seesX ht e ⟨by omega, h2⟩ (by rcases h4 with h4 | h4; exact absurd e h4; exact h4)
    · exact h.sees0 (Or.inr ⟨w, _, rfl, ht, h2, e, h3⟩)
def t_shop (a1 a2 a3 a4 a5 : Nat) (r : List Nat) : List Nat := [115, 104, 111, 112] ++ ([32] ++ (digs a1 ++ ([32] ++ (digs a2 ++ ([32] ++ (digs a3 ++ ([32] ++ (digs a4 ++ ([32] ++ (digs a5 ++ ([] ++ ([59] ++ ([] ++ r)))))))))))))
def t_names (wd : List Nat) (p : Nat) : Nat → Nat → List Nat → List Nat
  | 0, _, r => r
  | j + 1, k, r => wd ++ ([32] ++ ([96 + p, 96 + (k + 1)] ++ ([] ++ ([59] ++ ([] ++ t_names wd p j (k + 1) r)))))
def t_cus (pu fa : Nat → Nat) : Nat → Nat → List Nat → List Nat
  | 0, _, r => r
  | j + 1, k, r => [99, 117, 115, 116, 111, 109, 101, 114] ++ ([32] ++ ([96 + 3, 96 + (k + 1)] ++ ([32] ++ (digs (pu k) ++ ([32] ++ (digs (fa k) ++ ([] ++ ([59] ++ ([] ++ t_cus pu fa j (k + 1) r)))))))))
def t_owls (sp : Nat → Nat) : Nat → Nat → List Nat → List Nat
  | 0, _, r => r
  | j + 1, k, r => [111, 119, 108] ++ ([32] ++ (digs (sp k) ++ ([] ++ ([59] ++ ([] ++ t_owls sp j (k + 1) r)))))
theorem gd_names {wd : List Nat} {p j k : Nat} {r : List Nat} (h0 : wd ≠ []) (h1 : ∀ x ∈ wd, isL x) (hr : gd r) : gd (t_names wd p j k r) := by
  cases j with
  | zero => exact hr
  | succ j => exact gd_w h0 h1
theorem gd_cus {pu fa : Nat → Nat} {j k : Nat} {r : List Nat} (hr : gd r) : gd (t_cus pu fa j k r) := by
  cases j with
  | zero => exact hr
  | succ j => exact gd_w (by simp) (by decide)
theorem gd_owls {sp : Nat → Nat} {j k : Nat} {r : List Nat} (hr : gd r) : gd (t_owls sp j k r) := by
  cases j with
  | zero => exact hr
  | succ j => exact gd_w (by simp) (by decide)
theorem e5_2 {p q : Nat} : e5 [p, q] = 32 * p + q := by
  show 32 * (32 * 0 + p) + q = _
  omega
/-- the shop's numbers are read -/
theorem RD.shop {m : Mem} {s a1 a2 a3 a4 a5 : Nat} {r : List Nat} (h : RD m (t_shop a1 a2 a3 a4 a5 r)) (h1 : a1 ≤ 99999) (h2 : 1 ≤ a2 ∧ a2 ≤ 9) (h3 : a3 ≤ 99) (h4 : a4 ≤ 200) (h5 : a5 ≤ 200) (hr : gd r) : ∃ m', f_SetupReader_readShop s m = some m' ∧ RD m' r ∧ (m' 7 s 0 = nI a1 ∧ m' 7 s 1 = nI a2 ∧ m' 7 s 2 = nI a3 ∧ m' 7 s 3 = nI a4 ∧ m' 7 s 4 = nI a5) ∧ (∀ f, 4 < f → m' 7 s f = m 7 s f) ∧ (∀ i, i ≠ s → m' 7 i = m 7 i) ∧ (∀ K, K ≠ 8 → K ≠ 7 → m' K = m K) ∧ ∀ f, f = 0 ∨ 3 < f → m' 8 0 f = m 8 0 f := by
  unfold t_shop at h
  obtain ⟨m1, c1, r1, f1⟩ := h.takeWord (wi := 2) (Or.inl ⟨rfl, by simp, by decide, hd32 (Q := isL) (by decide)⟩) rfl (by decide) (Or.inr rfl) nbl_dig
  obtain ⟨m2, c2, r2, f2⟩ := r1.number (lo := 0) (hi := 99999) (by omega) (by omega) h1 (by omega) (hd32 (Q := isD) (by decide)) (Or.inr rfl) nbl_dig
  have r2' := r2.keep (m' := st3 m2 7 s 0 (nI a1)) (st3_K (by omega)) (st3_K (by omega)) (st3_K (by omega))
  obtain ⟨m3, c3, r3, f3⟩ := r2'.number (lo := 1) (hi := 9) (by omega) h2.1 h2.2 (by omega) (hd32 (Q := isD) (by decide)) (Or.inr rfl) nbl_dig
  have r3' := r3.keep (m' := st3 m3 7 s 1 (nI a2)) (st3_K (by omega)) (st3_K (by omega)) (st3_K (by omega))
  obtain ⟨m4, c4, r4, f4⟩ := r3'.number (lo := 0) (hi := 99) (by omega) (by omega) h3 (by omega) (hd32 (Q := isD) (by decide)) (Or.inr rfl) nbl_dig
  have r4' := r4.keep (m' := st3 m4 7 s 2 (nI a3)) (st3_K (by omega)) (st3_K (by omega)) (st3_K (by omega))
  obtain ⟨m5, c5, r5, f5⟩ := r4'.number (lo := 0) (hi := 200) (by omega) (by omega) h4 (by omega) (hd32 (Q := isD) (by decide)) (Or.inr rfl) nbl_dig
  have r5' := r5.keep (m' := st3 m5 7 s 3 (nI a4)) (st3_K (by omega)) (st3_K (by omega)) (st3_K (by omega))
  obtain ⟨m6, c6, r6, f6⟩ := r5'.number (lo := 0) (hi := 200) (by omega) (by omega) h5 (by omega) (hd59 (Q := isD) (by decide)) (Or.inl rfl) nbl59
  have r6' := r6.keep (m' := st3 m6 7 s 4 (nI a5)) (st3_K (by omega)) (st3_K (by omega)) (st3_K (by omega))
  obtain ⟨m7, c7, r7, f7⟩ := r6'.takeSign (Or.inl rfl) hr.nbl
  have g7 : m7 7 s = ua (ua (ua (ua (ua (m 7 s) 0 (nI a1)) 1 (nI a2)) 2 (nI a3)) 3 (nI a4)) 4 (nI a5) := by
    rw [f7.1 7 (by omega), st3_ua, f6.1 7 (by omega), st3_ua, f5.1 7 (by omega), st3_ua, f4.1 7 (by omega), st3_ua, f3.1 7 (by omega), st3_ua, f2.1 7 (by omega), f1.1 7 (by omega)]
  refine ⟨m7, ?_, r7, ⟨?_, ?_, ?_, ?_, ?_⟩, fun f hf => ?_, fun i hi => ?_, fun K k8 k7 => ?_, fun f hf => ?_⟩
  · unfold f_SetupReader_readShop
    rw [c1, bind_s, show f_Reader_takeNumber 8 0 99999 m1 = some (nI a1, m2) from c2, bind_s, nm_9]
    show (f_Reader_takeNumber 8 1 9 (st3 m2 7 s 0 (nI a1))).bind _ = _
    rw [show f_Reader_takeNumber 8 1 9 (st3 m2 7 s 0 (nI a1)) = some (nI a2, m3) from c3, bind_s, nm_9]
    show (f_Reader_takeNumber 8 0 99 (st3 m3 7 s 1 (nI a2))).bind _ = _
    rw [show f_Reader_takeNumber 8 0 99 (st3 m3 7 s 1 (nI a2)) = some (nI a3, m4) from c4, bind_s, nm_9]
    show (f_Reader_takeNumber 8 0 200 (st3 m4 7 s 2 (nI a3))).bind _ = _
    rw [show f_Reader_takeNumber 8 0 200 (st3 m4 7 s 2 (nI a3)) = some (nI a4, m5) from c5, bind_s, nm_9]
    show (f_Reader_takeNumber 8 0 200 (st3 m5 7 s 3 (nI a4))).bind _ = _
    rw [show f_Reader_takeNumber 8 0 200 (st3 m5 7 s 3 (nI a4)) = some (nI a5, m6) from c6, bind_s, nm_9]
    show (f_Reader_takeSign 8 59 (st3 m6 7 s 4 (nI a5))).bind _ = _
    rw [c7, bind_s]
  · rw [g7, ua_N (by omega), ua_N (by omega), ua_N (by omega), ua_N (by omega), ua_S]
  · rw [g7, ua_N (by omega), ua_N (by omega), ua_N (by omega), ua_S]
  · rw [g7, ua_N (by omega), ua_N (by omega), ua_S]
  · rw [g7, ua_N (by omega), ua_S]
  · rw [g7, ua_S]
  · rw [g7, ua_N (by omega), ua_N (by omega), ua_N (by omega), ua_N (by omega), ua_N (by omega)]
  · rw [f7.1 7 (by omega), st3_J hi, f6.1 7 (by omega), st3_J hi, f5.1 7 (by omega), st3_J hi, f4.1 7 (by omega), st3_J hi, f3.1 7 (by omega), st3_J hi, f2.1 7 (by omega), f1.1 7 (by omega)]
  · rw [f7.1 K k8, st3_K k7, f6.1 K k8, st3_K k7, f5.1 K k8, st3_K k7, f4.1 K k8, st3_K k7, f3.1 K k8, st3_K k7, f2.1 K k8, f1.1 K k8]
  · rw [f7.2 f hf, st3_K (by omega), f6.2 f hf, st3_K (by omega), f5.2 f hf, st3_K (by omega), f4.2 f hf, st3_K (by omega), f3.2 f hf, st3_K (by omega), f2.2 f hf, f1.2 f hf]
/-- a name is added -/
theorem C_add9 {m : Mem} {j n : Nat} {x : Int32} (h : m 3 j 1 = nI n) (hn : n < 8) : f_Names_add j x m = some (st3 (st3 m 23 j n x) 3 j 1 (nI (n + 1))) := by
  unfold f_Names_add
  rw [h, if_neg (show ¬ (8 : Int32) ≤ nI n from nI_ge (b := 8) hn (by omega)), chk_of (inb_of hn (by omega)), nI_clamp (by omega), nm_9, nm_9, st3_K (show 3 ≠ 23 by omega), h, nI_1]
/-- names of one kind -/
def FN (j : Nat) (m m' : Mem) : Prop := (∀ K i, K ≠ 8 → ¬ ((K = 3 ∨ K = 23) ∧ i = j) → m' K i = m K i) ∧ ∀ f, f = 0 ∨ 3 < f → m' 8 0 f = m 8 0 f
theorem FN.rf {j : Nat} {m : Mem} : FN j m m := ⟨fun _ _ _ _ => rfl, fun _ _ => rfl⟩
theorem FN.tr {j : Nat} {m m' m'' : Mem} (h : FN j m m') (h' : FN j m' m'') : FN j m m'' := ⟨fun K i a b => (h'.1 K i a b).trans (h.1 K i a b), fun f a => (h'.2 f a).trans (h.2 f a)⟩
theorem FR8.fn {j : Nat} {m m' : Mem} (h : FR8 m m') : FN j m m' := ⟨fun K i a _ => by rw [h.1 K a], h.2⟩
theorem FN.st {j : Nat} {m m' : Mem} {K f : Nat} {x : Int32} (h : FN j m m') (hK : K = 3 ∨ K = 23) : FN j m (st3 m' K j f x) := ⟨fun K' i a b => by
  by_cases e : K' = K
  · subst e
    rw [st3_J (fun z => b ⟨hK, z⟩)]
    exact h.1 K' i a b
  · rw [st3_K e]
    exact h.1 K' i a b, fun f' a => by rw [st3_K (by omega)]; exact h.2 f' a⟩
theorem RD.names {m : Mem} {j p E wi : Nat} {wd r : List Nat} (h : RD m (t_names wd p E 0 r)) (hw : sTx wi = wd.map nI) (hw0 : wd ≠ []) (hw1 : ∀ x ∈ wd, isL x) (hw2 : wd.length ≤ 20) (hp : 1 ≤ p ∧ p ≤ 26) (hE1 : 1 ≤ E) (hE : E ≤ 6) (hr : gd r) (ho : OTH wi r) (h0 : m 3 j 1 = 0) : ∃ m', f_SetupReader_readNames wi j m = some m' ∧ RD m' r ∧ m' 3 j 1 = nI E ∧ (∀ k, k < E → m' 23 j k = nI (e5 [p, k + 1])) ∧ FN j m m' := by
  have htk : ∀ k i q, t_names wd p (k + 1) i q = wd ++ ([32] ++ ([96 + p, 96 + (i + 1)] ++ ([] ++ ([59] ++ ([] ++ t_names wd p k (i + 1) q))))) := fun k i q => rfl
  have hTK : ∀ q, TK wd ([32] ++ q) 1 := fun q => Or.inl ⟨rfl, hw0, hw1, hd32 (Q := isL) (by decide)⟩
  have hs0 : f_Reader_sees 8 wi m = some 1 := by
    rw [show E = (E - 1) + 1 by omega, htk] at h
    exact h.sees (hTK _) hw hw2
  have key : ∃ m', it (fun (s : Int32 × Mem) => s_SetupReader_readNames_15 wi j s.1 s.2) LIM (0, m) = some m' ∧ (RD m' r ∧ m' 3 j 1 = nI E ∧ (∀ k, k < E → m' 23 j k = nI (e5 [p, k + 1])) ∧ FN j m m') := by
    refine it_for (fun i (q : Int32 × Mem) => q.1 = nI i ∧ RD q.2 (t_names wd p (E - i) i r) ∧ q.2 3 j 1 = nI i ∧ (∀ k, k < i → q.2 23 j k = nI (e5 [p, k + 1])) ∧ FN j m q.2) (fun m' => RD m' r ∧ m' 3 j 1 = nI E ∧ (∀ k, k < E → m' 23 j k = nI (e5 [p, k + 1])) ∧ FN j m m') E 0 (by omega) (by omega) ⟨rfl, h, h0, fun k hk => absurd hk (Nat.not_lt_zero _), FN.rf⟩ (fun i hi q hq => ?_) (fun q hq => ?_)
    · obtain ⟨q1, q2, q3, q4, q5⟩ := hq
      obtain ⟨x, u⟩ := q
      replace q1 : x = nI i := q1
      subst q1
      replace q2 : RD u (t_names wd p (E - i) i r) := q2
      replace q3 : u 3 j 1 = nI i := q3
      replace q4 : ∀ k, k < i → u 23 j k = nI (e5 [p, k + 1]) := q4
      replace q5 : FN j m u := q5
      rw [show E - i = (E - (i + 1)) + 1 by omega, htk] at q2
      have hgd : gd (t_names wd p (E - (i + 1)) (i + 1) r) := gd_names hw0 hw1 hr
      have s1 := q2.sees (hTK _) hw hw2
      obtain ⟨m1, c1, r1, f1⟩ := q2.next (hTK _) (Or.inr rfl) nbl_nm
      have h31 : m1 3 j 1 = nI i := by rw [f1.1 3 (by omega)]; exact q3
      obtain ⟨m2, c2, r2, f2⟩ := r1.newName (j := j) (n := i) hp ⟨by omega, by omega⟩ (hd59 (Q := isL) (by decide)) (Or.inl rfl) nbl59 h31 (by omega) (fun k hk z => by
        rw [f1.1 23 (by omega), q4 k hk] at z
        have := (nI_eq (by rw [e5_2]; omega) (by rw [e5_2]; omega)).mp z
        rw [e5_2, e5_2] at this
        omega)
      have h32 : m2 3 j 1 = nI i := by rw [f2.1 3 (by omega)]; exact h31
      have c3 := C_add9 (x := nI (e5 [p, i + 1])) h32 (by omega)
      generalize hm3 : st3 (st3 m2 23 j i (nI (e5 [p, i + 1]))) 3 j 1 (nI (i + 1)) = m3 at c3
      have r3 : RD m3 ([59] ++ ([] ++ t_names wd p (E - (i + 1)) (i + 1) r)) := by
        rw [← hm3]
        exact r2.keep (by rw [st3_K (by omega), st3_K (by omega)]) (by rw [st3_K (by omega), st3_K (by omega)]) (by rw [st3_K (by omega), st3_K (by omega)])
      obtain ⟨m4, c4, r4, f4⟩ := r3.takeSign (Or.inl rfl) hgd.nbl
      refine ⟨(nI (i + 1), m4), ?_, rfl, r4, ?_, fun k hk => ?_, ?_⟩
      · show s_SetupReader_readNames_15 wi j (nI i) u = _
        unfold s_SetupReader_readNames_15 f_Reader_takeCounted
        rw [if_neg (show ¬ (6 : Int32) < nI i from nI_nlt (a := 6) (by omega) (by omega)), s1, bind_s, if_neg (by decide), bind_s, if_neg (by decide), if_pos (show nI i < (6 : Int32) from nI_lt (b := 6) (by omega) (by omega)), c1, bind_s, bind_s, c2, bind_s]
        show (f_Names_add j (nI (e5 [p, i + 1])) m2).bind _ = _
        rw [c3, bind_s, c4, bind_s, nI_1]
      · show m4 3 j 1 = nI (i + 1)
        rw [f4.1 3 (by omega), ← hm3, st3_ua, ua_S]
      · show m4 23 j k = _
        rw [f4.1 23 (by omega), ← hm3, st3_K (by omega), st3_ua]
        by_cases e : k = i
        · rw [e, ua_S]
        · rw [ua_N e, f2.1 23 (by omega), f1.1 23 (by omega)]
          exact q4 k (by omega)
      · refine (q5.tr (f1.fn.tr f2.fn)).tr (FN.tr ?_ f4.fn)
        rw [← hm3]
        exact (FN.rf.st (Or.inr rfl)).st (Or.inl rfl)
    · obtain ⟨q1, q2, q3, q4, q5⟩ := hq
      obtain ⟨x, u⟩ := q
      replace q1 : x = nI E := q1
      subst q1
      replace q2 : RD u (t_names wd p (E - E) E r) := q2
      rw [Nat.sub_self] at q2
      replace q2 : RD u r := q2
      refine ⟨u, ?_, q2, q3, q4, q5⟩
      show s_SetupReader_readNames_15 wi j (nI E) u = _
      unfold s_SetupReader_readNames_15
      rw [if_neg (show ¬ (6 : Int32) < nI E from nI_nlt (a := 6) (by omega) (by omega)), q2.oth ho, bind_s, if_pos rfl]
  obtain ⟨m', a, b⟩ := key
  refine ⟨m', ?_, b⟩
  unfold f_SetupReader_readNames
  rw [hs0, bind_s, if_neg (by decide), bind_s, a, bind_s]
/-- customers -/
def FCu (s : Nat) (m m' : Mem) : Prop := (∀ K i, K ≠ 8 → ¬ ((K = 3 ∨ K = 23) ∧ i = 3 * s + 2) → ¬ ((K = 24 ∨ K = 25) ∧ i = s) → m' K i = m K i) ∧ ∀ f, f = 0 ∨ 3 < f → m' 8 0 f = m 8 0 f
theorem FCu.rf {s : Nat} {m : Mem} : FCu s m m := ⟨fun _ _ _ _ _ => rfl, fun _ _ => rfl⟩
theorem FCu.tr {s : Nat} {m m' m'' : Mem} (h : FCu s m m') (h' : FCu s m' m'') : FCu s m m'' := ⟨fun K i a b c => (h'.1 K i a b c).trans (h.1 K i a b c), fun f a => (h'.2 f a).trans (h.2 f a)⟩
theorem FR8.fcu {s : Nat} {m m' : Mem} (h : FR8 m m') : FCu s m m' := ⟨fun K i a _ _ => by rw [h.1 K a], h.2⟩
theorem FCu.st {s : Nat} {m m' : Mem} {K i f : Nat} {x : Int32} (h : FCu s m m') (hK : ((K = 3 ∨ K = 23) ∧ i = 3 * s + 2) ∨ ((K = 24 ∨ K = 25) ∧ i = s)) : FCu s m (st3 m' K i f x) := ⟨fun K' i' a b c => by
  by_cases e : K' = K
  · subst e
    rw [st3_J (fun z => by subst z; rcases hK with hK | hK; exact b hK; exact c hK)]
    exact h.1 K' i' a b c
  · rw [st3_K e]
    exact h.1 K' i' a b c, fun f' a => by rw [st3_K (by omega)]; exact h.2 f' a⟩
theorem RD.customers {m : Mem} {s C : Nat} {pu fa : Nat → Nat} {r : List Nat} (h : RD m (t_cus pu fa C 0 r)) (hC : C ≤ 8) (hpu : ∀ k, k < C → pu k ≤ 9999) (hfa : ∀ k, k < C → 1 ≤ fa k ∧ fa k ≤ 30) (hr : gd r) (ho : OTH 5 r) (h0 : m 3 (3 * s + 2) 1 = 0) : ∃ m', f_SetupReader_readCustomers s m = some m' ∧ RD m' r ∧ m' 3 (3 * s + 2) 1 = nI C ∧ (∀ k, k < C → m' 23 (3 * s + 2) k = nI (e5 [3, k + 1]) ∧ m' 24 s k = nI (pu k) ∧ m' 25 s k = nI (fa k)) ∧ FCu s m m' := by
  have htk : ∀ k i q, t_cus pu fa (k + 1) i q = [99, 117, 115, 116, 111, 109, 101, 114] ++ ([32] ++ ([96 + 3, 96 + (i + 1)] ++ ([32] ++ (digs (pu i) ++ ([32] ++ (digs (fa i) ++ ([] ++ ([59] ++ ([] ++ t_cus pu fa k (i + 1) q))))))))) := fun k i q => rfl
  have hTK : ∀ q, TK [99, 117, 115, 116, 111, 109, 101, 114] ([32] ++ q) 1 := fun q => Or.inl ⟨rfl, by simp, by decide, hd32 (Q := isL) (by decide)⟩
  have key : ∃ m', it (fun (z : Int32 × Mem) => s_SetupReader_readCustomers_2 s z.1 z.2) LIM (0, m) = some m' ∧ (RD m' r ∧ m' 3 (3 * s + 2) 1 = nI C ∧ (∀ k, k < C → m' 23 (3 * s + 2) k = nI (e5 [3, k + 1]) ∧ m' 24 s k = nI (pu k) ∧ m' 25 s k = nI (fa k)) ∧ FCu s m m') := by
    refine it_for (fun i (q : Int32 × Mem) => q.1 = nI i ∧ RD q.2 (t_cus pu fa (C - i) i r) ∧ q.2 3 (3 * s + 2) 1 = nI i ∧ (∀ k, k < i → q.2 23 (3 * s + 2) k = nI (e5 [3, k + 1]) ∧ q.2 24 s k = nI (pu k) ∧ q.2 25 s k = nI (fa k)) ∧ FCu s m q.2) (fun m' => RD m' r ∧ m' 3 (3 * s + 2) 1 = nI C ∧ (∀ k, k < C → m' 23 (3 * s + 2) k = nI (e5 [3, k + 1]) ∧ m' 24 s k = nI (pu k) ∧ m' 25 s k = nI (fa k)) ∧ FCu s m m') C 0 (by omega) (by omega) ⟨rfl, h, h0, fun k hk => absurd hk (Nat.not_lt_zero _), FCu.rf⟩ (fun i hi q hq => ?_) (fun q hq => ?_)
    · obtain ⟨q1, q2, q3, q4, q5⟩ := hq
      obtain ⟨x, u⟩ := q
      replace q1 : x = nI i := q1
      subst q1
      replace q2 : RD u (t_cus pu fa (C - i) i r) := q2
      replace q3 : u 3 (3 * s + 2) 1 = nI i := q3
      replace q4 : ∀ k, k < i → u 23 (3 * s + 2) k = nI (e5 [3, k + 1]) ∧ u 24 s k = nI (pu k) ∧ u 25 s k = nI (fa k) := q4
      replace q5 : FCu s m u := q5
      rw [show C - i = (C - (i + 1)) + 1 by omega, htk] at q2
      have hgd : gd (t_cus pu fa (C - (i + 1)) (i + 1) r) := gd_cus hr
      have s1 := q2.sees (wi := 5) (hTK _) rfl (by decide)
      obtain ⟨m1, c1, r1, f1⟩ := q2.next (hTK _) (Or.inr rfl) nbl_nm
      have h31 : m1 3 (3 * s + 2) 1 = nI i := by rw [f1.1 3 (by omega)]; exact q3
      obtain ⟨m2, c2, r2, f2⟩ := r1.newName (j := 3 * s + 2) (n := i) ⟨by omega, by omega⟩ ⟨by omega, by omega⟩ (hd32 (Q := isL) (by decide)) (Or.inr rfl) nbl_dig h31 (by omega) (fun k hk z => by
        rw [f1.1 23 (by omega), (q4 k hk).1] at z
        have := (nI_eq (by rw [e5_2]; omega) (by rw [e5_2]; omega)).mp z
        rw [e5_2, e5_2] at this
        omega)
      have p1 := hpu i hi
      have p2 := hfa i hi
      obtain ⟨m3, c3, r3, f3⟩ := r2.number (lo := 0) (hi := 9999) (by omega) (by omega) p1 (by omega) (hd32 (Q := isD) (by decide)) (Or.inr rfl) nbl_dig
      obtain ⟨m4, c4, r4, f4⟩ := r3.number (lo := 1) (hi := 30) (by omega) p2.1 p2.2 (by omega) (hd59 (Q := isD) (by decide)) (Or.inl rfl) nbl59
      obtain ⟨m5, c5, r5, f5⟩ := r4.takeSign (Or.inl rfl) hgd.nbl
      have F5 : FR8 u m5 := (((f1.tr f2).tr f3).tr f4).tr f5
      have h35 : m5 3 (3 * s + 2) 1 = nI i := by rw [F5.1 3 (by omega)]; exact q3
      have h36 : (st3 (st3 m5 24 s i (nI (pu i))) 25 s i (nI (fa i))) 3 (3 * s + 2) 1 = nI i := by rw [st3_K (by omega), st3_K (by omega)]; exact h35
      have c6 := C_add9 (x := nI (e5 [3, i + 1])) h36 (by omega)
      generalize hm6 : st3 (st3 (st3 (st3 m5 24 s i (nI (pu i))) 25 s i (nI (fa i))) 23 (3 * s + 2) i (nI (e5 [3, i + 1]))) 3 (3 * s + 2) 1 (nI (i + 1)) = m6 at c6
      have r6 : RD m6 (t_cus pu fa (C - (i + 1)) (i + 1) r) := by
        rw [← hm6]
        exact r5.keep (by rw [st3_K (by omega), st3_K (by omega), st3_K (by omega), st3_K (by omega)]) (by rw [st3_K (by omega), st3_K (by omega), st3_K (by omega), st3_K (by omega)]) (by rw [st3_K (by omega), st3_K (by omega), st3_K (by omega), st3_K (by omega)])
      refine ⟨(nI (i + 1), m6), ?_, rfl, r6, ?_, fun k hk => ⟨?_, ?_, ?_⟩, ?_⟩
      · show s_SetupReader_readCustomers_2 s (nI i) u = _
        unfold s_SetupReader_readCustomers_2 f_Reader_takeCounted f_Setup_addCustomer
        rw [if_neg (show ¬ (8 : Int32) < nI i from nI_nlt (a := 8) (by omega) (by omega)), s1, bind_s, if_neg (by decide), bind_s, if_neg (by decide), if_pos (show nI i < (8 : Int32) from nI_lt (b := 8) (by omega) (by omega)), c1, bind_s, bind_s, c2, bind_s]
        show (f_Reader_takeNumber 8 0 9999 m2).bind _ = _
        rw [show f_Reader_takeNumber 8 0 9999 m2 = some (nI (pu i), m3) from c3, bind_s]
        show (f_Reader_takeNumber 8 1 30 m3).bind _ = _
        rw [show f_Reader_takeNumber 8 1 30 m3 = some (nI (fa i), m4) from c4, bind_s]
        show (f_Reader_takeSign 8 59 m4).bind _ = _
        rw [c5, bind_s, h35, nm_9, if_neg (show ¬ (8 : Int32) ≤ nI i from nI_ge (b := 8) (by omega) (by omega)), chk_of (inb_of (by omega) (by omega)), nm_9, chk_of (inb_of (by omega) (by omega)), nm_9, nI_clamp (by omega)]
        show ((f_Names_add (3 * s + 2) (nI (e5 [3, i + 1])) (st3 (st3 m5 24 s i (nI (pu i))) 25 s i (nI (fa i)))).bind _).bind _ = _
        rw [c6, bind_s, bind_s, nI_1]
      · show m6 3 (3 * s + 2) 1 = nI (i + 1)
        rw [← hm6, st3_ua, ua_S]
      · show m6 23 (3 * s + 2) k = _
        rw [← hm6, st3_K (by omega), st3_ua]
        by_cases e : k = i
        · rw [e, ua_S]
        · rw [ua_N e, st3_K (by omega), st3_K (by omega), F5.1 23 (by omega)]
          exact (q4 k (by omega)).1
      · show m6 24 s k = _
        rw [← hm6, st3_K (by omega), st3_K (by omega), st3_K (by omega), st3_ua]
        by_cases e : k = i
        · rw [e, ua_S]
        · rw [ua_N e, F5.1 24 (by omega)]
          exact (q4 k (by omega)).2.1
      · show m6 25 s k = _
        rw [← hm6, st3_K (by omega), st3_K (by omega), st3_ua]
        by_cases e : k = i
        · rw [e, ua_S]
        · rw [ua_N e, st3_K (by omega), F5.1 25 (by omega)]
          exact (q4 k (by omega)).2.2
      · refine (q5.tr F5.fcu).tr ?_
        rw [← hm6]
        exact (((FCu.rf.st (Or.inr ⟨Or.inl rfl, rfl⟩)).st (Or.inr ⟨Or.inr rfl, rfl⟩)).st (Or.inl ⟨Or.inr rfl, rfl⟩)).st (Or.inl ⟨Or.inl rfl, rfl⟩)
    · obtain ⟨q1, q2, q3, q4, q5⟩ := hq
      obtain ⟨x, u⟩ := q
      replace q1 : x = nI C := q1
      subst q1
      replace q2 : RD u (t_cus pu fa (C - C) C r) := q2
      rw [Nat.sub_self] at q2
      replace q2 : RD u r := q2
      refine ⟨u, ?_, q2, q3, q4, q5⟩
      show s_SetupReader_readCustomers_2 s (nI C) u = _
      unfold s_SetupReader_readCustomers_2
      rw [if_neg (show ¬ (8 : Int32) < nI C from nI_nlt (a := 8) (by omega) (by omega)), q2.oth ho, bind_s, if_pos rfl]
  obtain ⟨m', a, b⟩ := key
  refine ⟨m', ?_, b⟩
  unfold f_SetupReader_readCustomers
  rw [a, bind_s]
/-- owls -/
def FOw (s : Nat) (m m' : Mem) : Prop := (∀ K i, K ≠ 8 → ¬ (K = 26 ∧ i = s) → ¬ (K = 7 ∧ i = s) → m' K i = m K i) ∧ (∀ f, f ≠ 11 → m' 7 s f = m 7 s f) ∧ ∀ f, f = 0 ∨ 3 < f → m' 8 0 f = m 8 0 f
theorem FOw.tr {s : Nat} {m m' m'' : Mem} (h : FOw s m m') (h' : FOw s m' m'') : FOw s m m'' := ⟨fun K i a b c => (h'.1 K i a b c).trans (h.1 K i a b c), fun f a => (h'.2.1 f a).trans (h.2.1 f a), fun f a => (h'.2.2 f a).trans (h.2.2 f a)⟩
theorem FR8.fow {s : Nat} {m m' : Mem} (h : FR8 m m') : FOw s m m' := ⟨fun K i a _ _ => by rw [h.1 K a], fun f _ => by rw [h.1 7 (by omega)], h.2⟩
theorem RD.owls {m : Mem} {s O : Nat} {sp : Nat → Nat} (h : RD m (t_owls sp O 0 [])) (hO : O ≤ 5) (hsp : ∀ k, k < O → 1 ≤ sp k ∧ sp k ≤ 9) (h0 : m 7 s 11 = 0) : ∃ m', f_SetupReader_readOwls s m = some m' ∧ RD m' [] ∧ m' 7 s 11 = nI O ∧ (∀ k, k < O → m' 26 s k = nI (sp k)) ∧ FOw s m m' := by
  have htk : ∀ k i q, t_owls sp (k + 1) i q = [111, 119, 108] ++ ([32] ++ (digs (sp i) ++ ([] ++ ([59] ++ ([] ++ t_owls sp k (i + 1) q))))) := fun k i q => rfl
  have hTK : ∀ q, TK [111, 119, 108] ([32] ++ q) 1 := fun q => Or.inl ⟨rfl, by simp, by decide, hd32 (Q := isL) (by decide)⟩
  have key : ∃ m', it (fun (z : Int32 × Mem) => s_SetupReader_readOwls_2 s z.1 z.2) LIM (0, m) = some m' ∧ (RD m' [] ∧ m' 7 s 11 = nI O ∧ (∀ k, k < O → m' 26 s k = nI (sp k)) ∧ FOw s m m') := by
    refine it_for (fun i (q : Int32 × Mem) => q.1 = nI i ∧ RD q.2 (t_owls sp (O - i) i []) ∧ q.2 7 s 11 = nI i ∧ (∀ k, k < i → q.2 26 s k = nI (sp k)) ∧ FOw s m q.2) (fun m' => RD m' [] ∧ m' 7 s 11 = nI O ∧ (∀ k, k < O → m' 26 s k = nI (sp k)) ∧ FOw s m m') O 0 (by omega) (by omega) ⟨rfl, h, h0, fun k hk => absurd hk (Nat.not_lt_zero _), FR8.fow FR8.rf⟩ (fun i hi q hq => ?_) (fun q hq => ?_)
    · obtain ⟨q1, q2, q3, q4, q5⟩ := hq
      obtain ⟨x, u⟩ := q
      replace q1 : x = nI i := q1
      subst q1
      replace q2 : RD u (t_owls sp (O - i) i []) := q2
      replace q3 : u 7 s 11 = nI i := q3
      replace q4 : ∀ k, k < i → u 26 s k = nI (sp k) := q4
      replace q5 : FOw s m u := q5
      rw [show O - i = (O - (i + 1)) + 1 by omega, htk] at q2
      have hgd : gd (t_owls sp (O - (i + 1)) (i + 1) []) := gd_owls (fun x hx => by cases hx)
      have s1 := q2.sees (wi := 6) (hTK _) rfl (by decide)
      obtain ⟨m1, c1, r1, f1⟩ := q2.next (hTK _) (Or.inr rfl) nbl_dig
      have p2 := hsp i hi
      obtain ⟨m4, c4, r4, f4⟩ := r1.number (lo := 1) (hi := 9) (by omega) p2.1 p2.2 (by omega) (hd59 (Q := isD) (by decide)) (Or.inl rfl) nbl59
      obtain ⟨m5, c5, r5, f5⟩ := r4.takeSign (Or.inl rfl) hgd.nbl
      have F5 : FR8 u m5 := (f1.tr f4).tr f5
      have h35 : m5 7 s 11 = nI i := by rw [F5.1 7 (by omega)]; exact q3
      generalize hm6 : st3 (st3 m5 26 s i (nI (sp i))) 7 s 11 (nI (i + 1)) = m6
      have r6 : RD m6 (t_owls sp (O - (i + 1)) (i + 1) []) := by
        rw [← hm6]
        exact r5.keep (by rw [st3_K (by omega), st3_K (by omega)]) (by rw [st3_K (by omega), st3_K (by omega)]) (by rw [st3_K (by omega), st3_K (by omega)])
      refine ⟨(nI (i + 1), m6), ?_, rfl, r6, ?_, fun k hk => ?_, ?_⟩
      · show s_SetupReader_readOwls_2 s (nI i) u = _
        unfold s_SetupReader_readOwls_2 f_Reader_takeCounted f_Setup_addOwl
        rw [if_neg (show ¬ (5 : Int32) < nI i from nI_nlt (a := 5) (by omega) (by omega)), s1, bind_s, if_neg (by decide), bind_s, if_neg (by decide), if_pos (show nI i < (5 : Int32) from nI_lt (b := 5) (by omega) (by omega)), c1, bind_s, bind_s]
        rw [show f_Reader_takeNumber 8 1 9 m1 = some (nI (sp i), m4) from c4, bind_s]
        show (f_Reader_takeSign 8 59 m4).bind _ = _
        rw [c5, bind_s, h35, if_neg (show ¬ (5 : Int32) ≤ nI i from nI_ge (b := 5) (by omega) (by omega)), chk_of (inb_of (by omega) (by omega)), nm_9, nI_clamp (by omega), nm_9, st3_K (show 7 ≠ 26 by omega), h35, nI_1, hm6, bind_s]
      · show m6 7 s 11 = nI (i + 1)
        rw [← hm6, st3_ua, ua_S]
      · show m6 26 s k = _
        rw [← hm6, st3_K (by omega), st3_ua]
        by_cases e : k = i
        · rw [e, ua_S]
        · rw [ua_N e, F5.1 26 (by omega)]
          exact q4 k (by omega)
      · have F6 : FOw s m5 m6 := by
          refine ⟨fun K i' a b c => ?_, fun f hf => ?_, fun f hf => ?_⟩
          · rw [← hm6]
            by_cases e7 : K = 7
            · subst e7
              rw [st3_J (fun z => c ⟨rfl, z⟩), st3_K (by omega)]
            · rw [st3_K e7]
              by_cases e6 : K = 26
              · subst e6
                rw [st3_J (fun z => b ⟨rfl, z⟩)]
              · rw [st3_K e6]
          · rw [← hm6, st3_ua, ua_N hf, st3_K (by omega)]
          · rw [← hm6, st3_K (by omega), st3_K (by omega)]
        exact (q5.tr F5.fow).tr F6
    · obtain ⟨q1, q2, q3, q4, q5⟩ := hq
      obtain ⟨x, u⟩ := q
      replace q1 : x = nI O := q1
      subst q1
      replace q2 : RD u (t_owls sp (O - O) O []) := q2
      rw [Nat.sub_self] at q2
      replace q2 : RD u [] := q2
      refine ⟨u, ?_, q2, q3, q4, q5⟩
      show s_SetupReader_readOwls_2 s (nI O) u = _
      unfold s_SetupReader_readOwls_2
      rw [if_neg (show ¬ (5 : Int32) < nI O from nI_nlt (a := 5) (by omega) (by omega)), q2.oth (Or.inl rfl), bind_s, if_pos rfl]
  obtain ⟨m', a, b⟩ := key
  refine ⟨m', ?_, b⟩
  unfold f_SetupReader_readOwls
  rw [a, bind_s]

theorem snd_ {α β : Type} {a : α} {b : β} : (a, b).snd = b := rfl
theorem fst_ {α β : Type} {a : α} {b : β} : (a, b).fst = a := rfl
def wi (x a b : Int32) : Int32 := if x < a then 0 else if b < x then 0 else 1
theorem wi_01 (x a b : Int32) : wi x a b = 0 ∨ wi x a b = 1 := by
  unfold wi
  split
  · exact Or.inl rfl
  · split
    · exact Or.inl rfl
    · exact Or.inr rfl
theorem C_within (x a b : Int32) (μ : Mem) : f_P_isWithin x a b μ = some (wi x a b) := by
  unfold f_P_isWithin wi
  split
  · rfl
  · split <;> rfl
theorem wi_1 {x : Int32} {a b : Nat} (hb : b < 2 ^ 31) (hab : a ≤ b) (h : wi x (nI a) (nI b) = 1) : ∃ d, a ≤ d ∧ d ≤ b ∧ x = nI d := by
  unfold wi at h
  split at h
  · exact absurd h (by decide)
  · rename_i h1
    split at h
    · exact absurd h (by decide)
    · rename_i h2
      have h3 : ¬ x < 0 := fun z => h1 (by
        have e0 : (0 : Int32) ≤ nI a := nI_pos' (by omega)
        rw [Int32.lt_iff_toInt_lt] at z ⊢
        rw [Int32.le_iff_toInt_le] at e0
        omega)
      obtain ⟨d, hd, rfl⟩ := nI_of h3
      refine ⟨d, ?_, ?_, rfl⟩
      · apply Classical.byContradiction; intro z; exact h1 (nI_lt (by omega) (by omega))
      · apply Classical.byContradiction; intro z; exact h2 (nI_lt (by omega) hd)
/-- one row more -/
theorem SH_addP {μ μ' : Mem} {j E P C O n w t dd : Nat} {a a' : Nat → Int32} (h : SH μ j a E P C O n w t dd) (hn : n < 24) (hC : C ≤ 8) (hO : O ≤ 5) (h9 : μ' 9 j = ua (μ 9 j) 5 (nI (n + 1))) (hK : ∀ K, K ≠ 5 → K ≠ 9 → μ' K = μ K) (hJ : ∀ p, p ≠ n → μ' 5 (24 * j + p) = μ 5 (24 * j + p))
    (ha : ∀ k, k ≠ 10 → (k < 80 + 10 * n ∨ 90 + 10 * n ≤ k) → a' k = a k) (h10 : a' 10 = nI (n + 1)) (hr : rowP (μ' 5 (24 * j + n)) a' (80 + 10 * n) E P C) : SH μ' j a' E P C O (n + 1) w t dd := by
  obtain ⟨h1, h2, h3, h4, h5, h6⟩ := h
  have hw : w ≤ 24 := h1.2.1
  unfold SH
  rw [h9, hK 4 (by omega) (by omega), hK 27 (by omega) (by omega), hK 30 (by omega) (by omega), hK 31 (by omega) (by omega), hK 32 (by omega) (by omega), hK 33 (by omega) (by omega)]
  refine ⟨?_, fun p hp => ?_, ⟨fun o ho => (h3.1 o ho).cong (fun _ _ => rfl) (fun f hf => ha _ (by omega) (by omega)), h3.2⟩, ⟨fun c hc => by rw [ha _ (by omega) (by omega)]; exact h4.1 c hc, h4.2⟩, ⟨fun k hk => ?_, fun k k' hk hk' => by rw [ha _ (by omega) (by omega), ha _ (by omega) (by omega)]; exact h5.2 k k' hk hk'⟩, fun k hk => by rw [ha _ (by omega) (by omega), ha _ (by omega) (by omega), ha _ (by omega) (by omega)]; exact h6 k hk⟩
  · have h7 := Ss_sold (z := n + 1) (by omega) h1
    unfold SHs at h7 ⊢
    have e : ∀ k, k ≠ 10 → k < 80 → a' k = ua a 10 (nI (n + 1)) k := fun k k1 k2 => by rw [ua_N k1]; exact ha k k1 (by omega)
    have e10 : a' 10 = ua a 10 (nI (n + 1)) 10 := by rw [ua_S]; exact h10
    rw [e 5 (by omega) (by omega), e 0 (by omega) (by omega), e10, e 12 (by omega) (by omega), e 11 (by omega) (by omega), e 13 (by omega) (by omega), e 14 (by omega) (by omega)]
    exact h7
  · by_cases e : p = n
    · subst e; exact hr
    · exact (h2 p (by omega)).cong (fun f _ => congrFun (hJ p e) f) (fun f hf => ha _ (by omega) (by omega))
  · obtain ⟨g1, v, g2, g3⟩ := h5.1 k hk
    rw [ha _ (by omega) (by omega)]
    exact ⟨g1, v, by omega, g3⟩
theorem st3_same {X Y : Mem} {K j f : Nat} {x : Int32} (h : X K = Y K) : st3 X K j f x K = st3 Y K j f x K := by
  funext j' f'
  unfold st3
  rw [h]
theorem HIS.frc {c0 : Int32} {μ m : Mem} {s E P C O h K : Nat} {pl : Nat → Nat × Mem} (H : HIS c0 μ s E P C O h K pl) (F : FrC 0 μ m) : HIS c0 m s E P C O h K pl :=
  H.fr (fun K q => by funext i; exact F.1 K i (by unfold inS; unfold setK at q; omega)) (fun j K i j1 j2 q => F.1 K i (by unfold inS at q ⊢; omega)) (by rw [F.1 2 0 (by unfold inS; omega)]) (F.1 34 0 (by unfold inS; omega))
theorem frc_12 {μ m : Mem} (F : FrC 0 μ m) : m 12 = μ 12 := by
  funext i
  exact F.1 12 i (by unfold inS; omega)
/-- an operation keeps the shop first -/
theorem T_rec {c0 : Int32} {μ v : Mem} {s b E P C O n w t dd h K : Nat} {pl : Nat → Nat × Mem} (hH : HIS c0 μ s E P C O h K pl) (hQ : QS c0 μ 0 s b v E P C O n w t dd) (hd : dd ≤ 9999) (hpl : pl K = (b, v)) :
    ∃ μ1, f_History_record 0 μ = some μ1 ∧ HIS c0 μ1 s E P C O (if h < 8 then h + 1 else 8) (K + 1) pl ∧ (∀ b' u n' w' t' dd', QS c0 μ 0 s b' u E P C O n' w' t' dd' → QS c0 μ1 0 s b' u E P C O n' w' t' dd') ∧ μ1 12 = μ 12 := by
  obtain ⟨μ1, e1, e2, e3⟩ := L_record hH hQ hd hpl
  refine ⟨μ1, e1, e2, fun b' u n' w' t' dd' hq => hq.mem (fun K i q => e3.shop (by omega) q) (fun K q => e3.set q), ?_⟩
  funext i
  exact e3 12 i (by omega) (by omega) (fun j _ _ q => by unfold inS at q; omega)
theorem C_throw0 {μ : Mem} : f_P_throwFor 0 μ = some () := by
  unfold f_P_throwFor
  rw [if_neg (by decide), if_neg (by decide), if_neg (by decide)]
section Sale
variable {c0 : Int32} {μ v : Mem} {j s b E P C O n w t dd : Nat}
theorem C_add {c : Nat} {kd ev pl pr : Int32} {de le : Nat} (h5 : μ 9 j 5 = nI n) (hn : n < 24) (h1 : μ 9 j 1 = nI dd) (hdd : dd ≤ 9999) (hc : c < 8) (hde : de ≤ 99) (hle : 1 ≤ le) (hle2 : le ≤ 60) :
    f_Shop_addProphecy j (nI c) kd ev pl (nI de) (nI le) pr μ = some (nI n, st3 (st3 (st3 (st3 (st3 (st3 (st3 (st3 (st3 (st3 (st3 (st3 μ 5 (24 * j + n) 0 (nI c)) 5 (24 * j + n) 1 kd) 5 (24 * j + n) 2 ev) 5 (24 * j + n) 3 pl) 5 (24 * j + n) 4 (nI (dd + de))) 5 (24 * j + n) 5 (nI (dd + de + le - 1))) 5 (24 * j + n) 6 pr) 5 (24 * j + n) 7 0) 5 (24 * j + n) 9 0) 27 j c (μ 27 j c + -pr)) 9 j 2 (μ 9 j 2 + pr)) 9 j 5 (nI (n + 1))) := by
  unfold f_Shop_addProphecy
  have e1 : nI dd + nI de = nI (dd + de) := nI_add _ _
  have e2 : nI (dd + de) + nI le - 1 = nI (dd + de + le - 1) := by rw [nI_add, show (1 : Int32) = nI 1 from rfl, pk_sub (by omega)]
  rw [h5, if_pos (ll_24 hn), chk_of (inb_of hn (by omega)), nI_clamp (by omega)]
  simp only [nm_9, st3_K (show 9 ≠ 5 by omega), h1, e1, st3_ua, ua_S, e2]
  rw [C_addCoins hc, bind_s]
  simp only [st3_K (show 27 ≠ 5 by omega), st3_K (show 9 ≠ 27 by omega), st3_K (show 9 ≠ 5 by omega), st3_ua, ua_S, ua_N (show 5 ≠ 2 by omega), h5, nI_1, nI_pred]
theorem C_fault {xc kd xe xp xd xl xr : Int32} (h0 : μ 9 j 0 = nI s) (hs : s < 2) (h3 : μ 3 (3 * s) 1 = nI E) (h4 : μ 3 (3 * s + 1) 1 = nI P) (h5 : μ 3 (3 * s + 2) 1 = nI C) (hn : μ 9 j 5 = nI n) :
    f_Shop_faultOfSale j xc kd xe xp xd xl xr μ = (if ixB xc C = 0 then some 1 else if ixB xe E = 0 then some 1 else if (if kd = 1 then (1 : Int32) else ixB xp P) = 0 then some 1 else if wi xd 0 99 = 0 then some 2 else if wi xl 1 60 = 0 then some 2 else if wi xr 1 999 = 0 then some 2 else if (24 : Int32) ≤ nI n then some 3 else (f_Shop_coinsOf j xc μ).bind (fun r9 => if xr ≤ r9 then some 0 else some 3)) := by
  unfold f_Shop_faultOfSale
  simp only [hS_of h0 hs, decide_eq_true hs, chk_t, C_has h4, C_has h5, C_has h3, C_within, bind_s, hn]
  have e : (if kd = 1 then some 1 else if ixB xp P = 0 then some 0 else some 1 : Option Int32) = some (if kd = 1 then (1 : Int32) else ixB xp P) := by
    split
    · rfl
    · rcases (show ixB xp P = 0 ∨ ixB xp P = 1 by unfold ixB; split; exact Or.inl rfl; exact Or.inr rfl) with z | z <;> rw [z] <;> rfl
  rw [e, bind_s]
/-- what the law writes of a sale -/
def slU (b n c e : Nat) (pl dn d1 d2 pr : Int32) (u : Mem) : Mem := st3 (st3 (st3 (st3 (st3 (st3 (st3 (st3 (st3 (st3 (st3 (st3 u 60 b 10 (nI (n + 1))) 68 b n (nI c)) 69 b n (nI e)) 70 b n pl) 78 b n dn) 71 b n d1) 72 b n d2) 73 b n pr) 74 b n 0) 76 b n 0) 61 b c (u 61 b c - pr)) 60 b 0 (u 60 b 0 + pr)
theorem L_sale {u : Mem} {c e l de le : Nat} {kd pl dn pr : Int32} (hQ : QS c0 μ 0 s b u E P C O n w t dd) (hn : n < 24) (hdd : dd ≤ 9000) (hc : c < C) (he : e < E) (hl : l < P) (hk : (kd = 1 ∧ pl = -1 ∧ dn = 0) ∨ (kd = 0 ∧ pl = nI l ∧ dn = 0) ∨ (kd = 2 ∧ pl = nI l ∧ dn = 1)) (hde : de ≤ 99) (hle : 1 ≤ le) (hle2 : le ≤ 60) :
    ∃ m, f_Shop_addProphecy 0 (nI c) kd (nI e) pl (nI de) (nI le) pr μ = some (nI n, m) ∧ QS c0 m 0 s b (slU b n c e pl dn (nI (dd + de)) (nI (dd + de + le - 1)) pr u) E P C O (n + 1) w t dd ∧ FrC 0 μ m := by
  obtain ⟨h0, hT, H, hI, hV, hN⟩ := hQ
  have hC : C ≤ 8 := hT.2.2.2.1
  have hO : O ≤ 5 := hT.2.2.2.2.1
  have hc8 : c < 8 := by omega
  have ht : t ≤ 60 := H.1.2.2.1
  have eA := C_add (μ := μ) (j := 0) (n := n) (dd := dd) (c := c) (kd := kd) (ev := nI e) (pl := pl) (pr := pr) (de := de) (le := le) (by obtain ⟨-, -, -, -, -, -, -, z, -⟩ := H.1; exact z) hn (by obtain ⟨-, -, -, -, z, -⟩ := H.1; exact z) (by omega) hc8 hde hle hle2
  have er : rO c0 b (slU b n c e pl dn (nI (dd + de)) (nI (dd + de + le - 1)) pr u) = ua (ua (ua (ua (ua (ua (ua (ua (ua (ua (ua (ua (rO c0 b u) 10 (nI (n + 1))) (80 + 10 * n + 0) (nI c)) (80 + 10 * n + 1) (nI e)) (80 + 10 * n + 2) pl) (80 + 10 * n + 3) dn) (80 + 10 * n + 4) (nI (dd + de))) (80 + 10 * n + 5) (nI (dd + de + le - 1))) (80 + 10 * n + 6) pr) (80 + 10 * n + 7) 0) (80 + 10 * n + 9) 0) (28 + 3 * c + 1) (rO c0 b u (28 + 3 * c + 1) - pr)) 0 (rO c0 b u 0 + pr) := by
    unfold slU
    rw [sto_0 (by omega), sto_c1 hc8, sto_p9 hn, sto_p7 hn, sto_p6 hn, sto_p5 hn, sto_p4 hn, sto_p3 hn, sto_p2 hn, sto_p1 hn, sto_p0 hn, sto_0 (by omega), ro_c1 hc8, ro_0 (by omega)]
  have F : FrC 0 μ (st3 (st3 (st3 (st3 (st3 (st3 (st3 (st3 (st3 (st3 (st3 (st3 μ 5 (24 * 0 + n) 0 (nI c)) 5 (24 * 0 + n) 1 kd) 5 (24 * 0 + n) 2 (nI e)) 5 (24 * 0 + n) 3 pl) 5 (24 * 0 + n) 4 (nI (dd + de))) 5 (24 * 0 + n) 5 (nI (dd + de + le - 1))) 5 (24 * 0 + n) 6 pr) 5 (24 * 0 + n) 7 0) 5 (24 * 0 + n) 9 0) 27 0 c (μ 27 0 c + -pr)) 9 0 2 (μ 9 0 2 + pr)) 9 0 5 (nI (n + 1))) :=
    (((((((((((FrC.rf.st5 hn).st5 hn).st5 hn).st5 hn).st5 hn).st5 hn).st5 hn).st5 hn).st5 hn).stA (by omega)).st9 (by omega)).st9 (by omega)
  generalize hA : slU b n c e pl dn (nI (dd + de)) (nI (dd + de + le - 1)) pr u = u' at er ⊢
  have dead : ∀ k, k ≠ 0 → k ≠ 10 → k ≠ 28 + 3 * c + 1 → (k < 80 + 10 * n ∨ 90 + 10 * n ≤ k) → rO c0 b u' k = rO c0 b u k := fun k k1 k2 k3 k4 => by
    rw [er]
    repeat rw [ua_N (by omega)]
  have d0 : rO c0 b u' 0 = rO c0 b u 0 + pr := by rw [er]; exact ua_S
  have d1 : rO c0 b u' (28 + 3 * c + 1) = rO c0 b u (28 + 3 * c + 1) - pr := by rw [er, ua_N (by omega)]; exact ua_S
  have d10 : rO c0 b u' 10 = nI (n + 1) := by
    rw [er]
    repeat rw [ua_N (by omega)]
    exact ua_S
  have r0 : rO c0 b u' (80 + 10 * n + 0) = nI c := by
    rw [er]
    repeat rw [ua_N (by omega)]
    exact ua_S
  have r1 : rO c0 b u' (80 + 10 * n + 1) = nI e := by
    rw [er]
    repeat rw [ua_N (by omega)]
    exact ua_S
  have r2 : rO c0 b u' (80 + 10 * n + 2) = pl := by
    rw [er]
    repeat rw [ua_N (by omega)]
    exact ua_S
  have r3 : rO c0 b u' (80 + 10 * n + 3) = dn := by
    rw [er]
    repeat rw [ua_N (by omega)]
    exact ua_S
  have r4 : rO c0 b u' (80 + 10 * n + 4) = nI (dd + de) := by
    rw [er]
    repeat rw [ua_N (by omega)]
    exact ua_S
  have r5 : rO c0 b u' (80 + 10 * n + 5) = nI (dd + de + le - 1) := by
    rw [er]
    repeat rw [ua_N (by omega)]
    exact ua_S
  have r6 : rO c0 b u' (80 + 10 * n + 6) = pr := by
    rw [er]
    repeat rw [ua_N (by omega)]
    exact ua_S
  have r7 : rO c0 b u' (80 + 10 * n + 7) = 0 := by
    rw [er]
    repeat rw [ua_N (by omega)]
    exact ua_S
  have r9 : rO c0 b u' (80 + 10 * n + 9) = 0 := by
    rw [er]
    repeat rw [ua_N (by omega)]
    exact ua_S
  have v9 : μ 9 0 2 = rO c0 b u 0 := by obtain ⟨-, -, -, -, -, -, z, -⟩ := H.1; exact z
  have v27 : μ 27 0 c = rO c0 b u (28 + 3 * c + 1) := H.2.2.2.1.1 c hc
  rw [v9, v27] at eA F
  refine ⟨_, eA, ⟨F.2.trans h0, (hT.mem (fun K q => by funext i; exact F.1 K i (by unfold inS; unfold setK at q; omega))).cong (fun k hk => dead k (by unfold dynI at hk; omega) (by unfold dynI at hk; omega) (by unfold dynI at hk; omega) (by unfold dynI at hk; omega)), ?_, ?_, ?_, ?_⟩, F⟩
  · have H1 : SH (st3 μ 9 0 2 (rO c0 b u 0 + pr)) 0 (ua (rO c0 b u) 0 (rO c0 b u 0 + pr)) E P C O n w t dd := H.setS hC hO (fun K hK => by rw [st3_K hK]) (fun k hk => ua_N (by omega)) (by rw [st3_ua]; exact Ss_cash H.1)
    have H2 := H1.setC c (rO c0 b u (28 + 3 * c + 1) + -pr) hc hC hO
    refine SH_addP H2 hn hC hO ?_ (fun K k5 k9 => ?_) (fun p hp => ?_) (fun k k10 hk => ?_) d10 ?_
    · simp only [st3_ua, st3_K (show 9 ≠ 27 by omega), st3_K (show 9 ≠ 5 by omega)]
    · by_cases k27 : K = 27
      · subst k27
        rw [st3_K k9, st3_K k9]
        exact st3_same (by simp only [st3_K k9, st3_K k5])
      · simp only [st3_K k9, st3_K k27, st3_K k5]
    · simp only [st3_K (show 5 ≠ 9 by omega), st3_K (show 5 ≠ 27 by omega), st3_J (show 24 * 0 + p ≠ 24 * 0 + n by omega)]
    · by_cases e0 : k = 0
      · subst e0; rw [d0, ua_N (by omega), ua_S]
      · by_cases e1 : k = 28 + 3 * c + 1
        · subst e1; rw [d1, ua_S, Int32.sub_eq_add_neg]
        · rw [dead k e0 k10 e1 hk, ua_N e1, ua_N e0]
    · unfold rowP
      rw [r0, r1, r2, r3, r4, r5, r6, r7, r9]
      simp only [st3_ua, st3_K (show 5 ≠ 9 by omega), st3_K (show 5 ≠ 27 by omega)]
      refine ⟨⟨c, hc, ?_, rfl⟩, ⟨e, he, ?_, rfl⟩, ?_, ⟨dd + de, by omega, ?_, rfl⟩, ⟨dd + de + le - 1, by omega, ?_, rfl⟩, ?_, ?_, (by first | exact Or.inl rfl | exact Or.inl trivial), (by first | exact fun z => absurd rfl z | exact fun z => absurd trivial z), ?_⟩
      · repeat rw [ua_N (by omega)]
        exact ua_S
      · repeat rw [ua_N (by omega)]
        exact ua_S
      · have q1 : ua (ua (ua (ua (ua (ua (ua (ua (ua (μ 5 (24 * 0 + n)) 0 (nI c)) 1 kd) 2 (nI e)) 3 pl) 4 (nI (dd + de))) 5 (nI (dd + de + le - 1))) 6 pr) 7 0) 9 0 1 = kd := by
          repeat rw [ua_N (by omega)]
          exact ua_S
        have q3 : ua (ua (ua (ua (ua (ua (ua (ua (ua (μ 5 (24 * 0 + n)) 0 (nI c)) 1 kd) 2 (nI e)) 3 pl) 4 (nI (dd + de))) 5 (nI (dd + de + le - 1))) 6 pr) 7 0) 9 0 3 = pl := by
          repeat rw [ua_N (by omega)]
          exact ua_S
        rw [q1, q3]
        rcases hk with ⟨rfl, rfl, rfl⟩ | ⟨rfl, rfl, rfl⟩ | ⟨rfl, rfl, rfl⟩
        · exact Or.inl ⟨rfl, rfl, rfl, rfl⟩
        · exact Or.inr (Or.inl ⟨rfl, ⟨l, hl, rfl, rfl⟩, rfl⟩)
        · exact Or.inr (Or.inr ⟨rfl, ⟨l, hl, rfl, rfl⟩, rfl⟩)
      · repeat rw [ua_N (by omega)]
        exact ua_S
      · repeat rw [ua_N (by omega)]
        exact ua_S
      · repeat rw [ua_N (by omega)]
        exact ua_S
      · repeat rw [ua_N (by omega)]
        exact ua_S
      · exact ua_S
  · exact hI.sale hC hO hn hc (fun k k1 k2 k3 k4 => dead k k2 (by unfold irr at k1; omega) k3 k4) d0 d1 r7
  · intro p hp z
    by_cases q : p = n
    · subst q
      exact ⟨dd + de + le - 1, by omega, by omega, r5⟩
    · rw [dead _ (by omega) (by omega) (by omega) (by omega)] at z ⊢
      exact hV p (by omega) z
  · intro i hi
    have e79 : u' 79 b = u 79 b := by
      rw [← hA]
      unfold slU
      rw [st3_K (by omega), st3_K (by omega), st3_K (by omega), st3_K (by omega), st3_K (by omega), st3_K (by omega), st3_K (by omega), st3_K (by omega), st3_K (by omega), st3_K (by omega), st3_K (by omega), st3_K (by omega)]
    rw [e79]
    exact hN i hi
/-- a sale as a whole -/
theorem T_sale {u : Mem} {b' c e l de le pr h K : Nat} {kd pl dn : Int32} {ps : Nat → Nat × Mem} (hH : HIS c0 μ s E P C O h K ps) (hQo : QS c0 μ 0 s b v E P C O n w t dd) (hps : ps K = (b, v)) (hQ : QS c0 μ 0 s b' u E P C O n w t dd) (hn : n < 24) (hdd : dd ≤ 9000) (hc : c < C) (he : e < E) (hl : l < P) (hk : (kd = 1 ∧ pl = -1 ∧ dn = 0) ∨ (kd = 0 ∧ pl = nI l ∧ dn = 0) ∨ (kd = 2 ∧ pl = nI l ∧ dn = 1)) (hde : de ≤ 99) (hle : 1 ≤ le) (hle2 : le ≤ 60) (hpr : 1 ≤ pr) (hpr2 : pr ≤ 999) (hpu : ¬ u 61 b' c < nI pr) :
    ∃ m, f_P_sellAny (nI c) kd (nI e) pl (nI de) (nI le) (nI pr) μ = some (nI n, m) ∧ QS c0 m 0 s b' (slU b' n c e pl dn (nI (dd + de)) (nI (dd + de + le - 1)) (nI pr) u) E P C O (n + 1) w t dd ∧ HIS c0 m s E P C O (if h < 8 then h + 1 else 8) (K + 1) ps ∧ m 12 = μ 12 := by
  obtain ⟨h0, hT, H, -⟩ := id hQ
  obtain ⟨hs, hE, hP, hC, hO, ⟨t3, -⟩, ⟨t4, -⟩, ⟨t5, -⟩, -⟩ := hT
  have s5 : μ 9 0 5 = nI n := by obtain ⟨-, -, -, -, -, -, -, z, -⟩ := H.1; exact z
  have hf : f_Shop_faultOfSale 0 (nI c) kd (nI e) pl (nI de) (nI le) (nI pr) μ = some 0 := by
    rw [C_fault h0 hs t3 t4 t5 s5, ixB_in (by omega) hc, if_neg (by decide), ixB_in (by omega) he, if_neg (by decide)]
    have ep : (if kd = 1 then (1 : Int32) else ixB pl P) = 1 := by
      rcases hk with ⟨rfl, -⟩ | ⟨rfl, rfl, -⟩ | ⟨rfl, rfl, -⟩
      · rfl
      · rw [if_neg (by decide), ixB_in (by omega) hl]
      · rw [if_neg (by decide), ixB_in (by omega) hl]
    have w1 : wi (nI de) 0 99 = 1 := by unfold wi; rw [if_neg (nI_pos (by omega)), if_neg (ng_99 hde)]
    have w2 : wi (nI le) 1 60 = 1 := by unfold wi; rw [if_neg (nl_1 hle (by omega)), if_neg (ng_60 hle2)]
    have w3 : wi (nI pr) 1 999 = 1 := by unfold wi; rw [if_neg (nl_1 hpr (by omega)), if_neg (ng_999 hpr2)]
    rw [ep, if_neg (by decide), w1, if_neg (by decide), w2, if_neg (by decide), w3, if_neg (by decide), if_neg (gl_24 hn), C_coinsOf (by omega), bind_s, if_pos]
    rw [H.2.2.2.1.1 c hc, ro_c1 (by omega)]
    rw [Int32.lt_iff_toInt_lt] at hpu
    rw [Int32.le_iff_toInt_le]
    omega
  obtain ⟨μ1, e1, e2, e3, e4⟩ := T_rec hH hQo (by omega) hps
  obtain ⟨m, f1, f2, f3⟩ := L_sale (e3 _ _ _ _ _ _ hQ) hn hdd hc he hl hk hde hle hle2 (pr := nI pr)
  refine ⟨m, ?_, f2, e2.frc f3, (frc_12 f3).trans e4⟩
  unfold f_P_sellAny
  rw [hf, bind_s, C_throw0, bind_s, e1, bind_s, f1, bind_s]
end Sale

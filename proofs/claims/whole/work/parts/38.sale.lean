/-! A sale, in the class and in the model. -/
/-- an operation of the shop on both sides: its fault (k here, km there), and what it does: in the class's memory once it is kept, in the model's behind 'changes' -/
def OP (j s E P C O n w t dd : Nat) (ν : Mem) (k : Nat) (km : Int32) (cf : Option Int32) (md : Option (Int32 × Mem)) (eff : Mem → Option (Int32 × Mem)) : Prop :=
  cf = some (nI k) ∧ k ≤ 3 ∧ (k ≠ 0 → km ≠ 0 ∧ md = some (0, st3 ν 13 0 7 km)) ∧
  (k = 0 → ∀ r, f_R_changes ν = some r → r 40 = ν 40 → (∀ f, f ≠ 6 → r 13 0 f = ν 13 0 f) → ∃ x v, md = some (x, v) ∧ FrN r v ∧
    ∀ μ', μ' 9 j 0 = nI s → ST μ' s (ν 40 0) E P C O → SH μ' j (ν 40 0) E P C O n w t dd → ∃ m n' w' t' dd', eff μ' = some (x, m) ∧ dd' ≤ 9999 ∧ SH m j (v 40 0) E P C O n' w' t' dd' ∧ FrC j μ' m)
theorem n1_ {ν : Mem} : ¬ ((1 : Int32), ν).fst = 0 := by show ¬ (1 : Int32) = 0; decide
theorem snd_ {α β : Type} {a : α} {b : β} : (a, b).snd = b := rfl
theorem fst_ {α β : Type} {a : α} {b : β} : (a, b).fst = a := rfl
theorem right_1 {e : Int32} {ν : Mem} (h : ν 13 0 7 = 0) : f_R_right 1 e ν = some (1, ν) := by
  unfold f_R_right
  rw [if_pos h, if_neg (by decide), bind_s, if_pos h]
theorem right_0 {e : Int32} {ν : Mem} (h : ν 13 0 7 = 0) (he : e ≠ 0) : f_R_right 0 e ν = some (0, st3 ν 13 0 7 e) := by
  unfold f_R_right
  rw [if_pos h, if_pos rfl, nm_9, bind_s, if_neg (by rw [st3_ua, ua_S]; exact he)]
def wi (x a b : Int32) : Int32 := if x < a then 0 else if b < x then 0 else 1
theorem wi_01 (x a b : Int32) : wi x a b = 0 ∨ wi x a b = 1 := by
  unfold wi
  split
  · exact Or.inl rfl
  · split
    · exact Or.inl rfl
    · exact Or.inr rfl
theorem C_within (x a b : Int32) (μ : Mem) : f_P_isWithin x a b μ = some (wi x a b) := by
  unfold f_P_isWithin wi
  split
  · rfl
  · split <;> rfl
theorem R_within (x a b : Int32) (μ : Mem) : f_R_in x a b μ = some (wi x a b) := by
  unfold f_R_in wi
  split
  · rfl
  · split <;> rfl
theorem wi_1 {x : Int32} {a b : Nat} (hb : b < 2 ^ 31) (hab : a ≤ b) (h : wi x (nI a) (nI b) = 1) : ∃ d, a ≤ d ∧ d ≤ b ∧ x = nI d := by
  unfold wi at h
  split at h
  · exact absurd h (by decide)
  · rename_i h1
    split at h
    · exact absurd h (by decide)
    · rename_i h2
      have h3 : ¬ x < 0 := fun z => h1 (by
        have e0 : (0 : Int32) ≤ nI a := nI_pos' (by omega)
        rw [Int32.lt_iff_toInt_lt] at z ⊢
        rw [Int32.le_iff_toInt_le] at e0
        omega)
      obtain ⟨d, hd, rfl⟩ := nI_of h3
      refine ⟨d, ?_, ?_, rfl⟩
      · apply Classical.byContradiction; intro z; exact h1 (nI_lt (by omega) (by omega))
      · apply Classical.byContradiction; intro z; exact h2 (nI_lt (by omega) hd)
/-- one row more -/
theorem SH_addP {μ μ' : Mem} {j E P C O n w t dd : Nat} {a a' : Nat → Int32} (h : SH μ j a E P C O n w t dd) (hn : n < 24) (hC : C ≤ 8) (hO : O ≤ 5) (h9 : μ' 9 j = ua (μ 9 j) 5 (nI (n + 1))) (hK : ∀ K, K ≠ 5 → K ≠ 9 → μ' K = μ K) (hJ : ∀ p, p ≠ n → μ' 5 (24 * j + p) = μ 5 (24 * j + p))
    (ha : ∀ k, k ≠ 10 → (k < 80 + 10 * n ∨ 90 + 10 * n ≤ k) → a' k = a k) (h10 : a' 10 = nI (n + 1)) (hr : rowP (μ' 5 (24 * j + n)) a' (80 + 10 * n) E P C) : SH μ' j a' E P C O (n + 1) w t dd := by
  obtain ⟨h1, h2, h3, h4, h5, h6⟩ := h
  have hw : w ≤ 24 := h1.2.1
  unfold SH
  rw [h9, hK 4 (by omega) (by omega), hK 27 (by omega) (by omega), hK 30 (by omega) (by omega), hK 31 (by omega) (by omega), hK 32 (by omega) (by omega), hK 33 (by omega) (by omega)]
  refine ⟨?_, fun p hp => ?_, ⟨fun o ho => (h3.1 o ho).cong (fun _ _ => rfl) (fun f hf => ha _ (by omega) (by omega)), h3.2⟩, ⟨fun c hc => by rw [ha _ (by omega) (by omega)]; exact h4.1 c hc, h4.2⟩, ⟨fun k hk => ?_, fun k k' hk hk' => by rw [ha _ (by omega) (by omega), ha _ (by omega) (by omega)]; exact h5.2 k k' hk hk'⟩, fun k hk => by rw [ha _ (by omega) (by omega), ha _ (by omega) (by omega), ha _ (by omega) (by omega)]; exact h6 k hk⟩
  · have h7 := Ss_sold (z := n + 1) (by omega) h1
    unfold SHs at h7 ⊢
    have e : ∀ k, k ≠ 10 → k < 80 → a' k = ua a 10 (nI (n + 1)) k := fun k k1 k2 => by rw [ua_N k1]; exact ha k k1 (by omega)
    have e10 : a' 10 = ua a 10 (nI (n + 1)) 10 := by rw [ua_S]; exact h10
    rw [e 5 (by omega) (by omega), e 0 (by omega) (by omega), e10, e 12 (by omega) (by omega), e 11 (by omega) (by omega), e 13 (by omega) (by omega), e 14 (by omega) (by omega)]
    exact h7
  · by_cases e : p = n
    · subst e; exact hr
    · exact (h2 p (by omega)).cong (fun f _ => congrFun (hJ p e) f) (fun f hf => ha _ (by omega) (by omega))
  · obtain ⟨g1, v, g2, g3⟩ := h5.1 k hk
    rw [ha _ (by omega) (by omega)]
    exact ⟨g1, v, by omega, g3⟩
section Sale
variable {μ ν : Mem} {j s E P C O n w t dd : Nat}
theorem C_add {c : Nat} {kd ev pl pr : Int32} {de le : Nat} (h5 : μ 9 j 5 = nI n) (hn : n < 24) (h1 : μ 9 j 1 = nI dd) (hdd : dd ≤ 9999) (hc : c < 8) (hde : de ≤ 99) (hle : 1 ≤ le) (hle2 : le ≤ 60) :
    f_Shop_addProphecy j (nI c) kd ev pl (nI de) (nI le) pr μ = some (nI n, st3 (st3 (st3 (st3 (st3 (st3 (st3 (st3 (st3 (st3 (st3 (st3 μ 5 (24 * j + n) 0 (nI c)) 5 (24 * j + n) 1 kd) 5 (24 * j + n) 2 ev) 5 (24 * j + n) 3 pl) 5 (24 * j + n) 4 (nI (dd + de))) 5 (24 * j + n) 5 (nI (dd + de + le - 1))) 5 (24 * j + n) 6 pr) 5 (24 * j + n) 7 0) 5 (24 * j + n) 9 0) 27 j c (μ 27 j c + -pr)) 9 j 2 (μ 9 j 2 + pr)) 9 j 5 (nI (n + 1))) := by
  unfold f_Shop_addProphecy
  have e1 : nI dd + nI de = nI (dd + de) := nI_add _ _
  have e2 : nI (dd + de) + nI le - 1 = nI (dd + de + le - 1) := by rw [nI_add, show (1 : Int32) = nI 1 from rfl, pk_sub (by omega)]
  rw [h5, if_pos (ll_24 hn), chk_of (inb_of hn (by omega)), nI_clamp (by omega)]
  simp only [nm_9, st3_K (show 9 ≠ 5 by omega), h1, e1, st3_ua, ua_S, e2]
  rw [C_addCoins hc, bind_s]
  simp only [st3_K (show 27 ≠ 5 by omega), st3_K (show 9 ≠ 27 by omega), st3_K (show 9 ≠ 5 by omega), st3_ua, ua_S, ua_N (show 5 ≠ 2 by omega), h5, nI_1, nI_pred]
theorem R_sold {c : Nat} {kd ev pl pr : Int32} {de le : Nat} {r : Mem} (hch : f_R_changes ν = some r) (h7 : ν 13 0 7 = 0) (hC : C ≤ 8) (hE : E ≤ 6) (hP : P ≤ 6) (h8 : ν 40 0 8 = nI C) (h6 : ν 40 0 6 = nI E) (hP7 : ν 40 0 7 = nI P) (h40 : r 40 = ν 40) (h13 : ∀ f, f ≠ 6 → r 13 0 f = ν 13 0 f)
    (h5 : ν 40 0 10 = nI n) (hn : n < 24) (h1 : ν 40 0 5 = nI dd) (hdd : dd ≤ 9999) (hc : c < C) (hev : ixB ev E = 1) (hpl : kd = 1 ∨ ixB pl P = 1) (hde : de ≤ 99) (hle : 1 ≤ le) (hle2 : le ≤ 60) (hpr : wi pr 1 999 = 1) (hpu : ¬ ν 40 0 (28 + 3 * c + 1) < pr) (g1 : ν 13 0 23 = nI de) (g2 : ν 13 0 24 = nI le) (g3 : ν 13 0 25 = pr) :
    f_R_selling (nI c) ev pl kd ν = some (nI n, st3 (st3 (st3 (st3 (st3 (st3 (st3 (st3 (st3 (st3 (st3 (st3 (st3 r 40 0 10 (nI (n + 1))) 40 0 (28 + 3 * c + 1) (r 40 0 (28 + 3 * c + 1) - pr)) 40 0 0 (r 40 0 0 + pr)) 40 0 (80 + 10 * n + 0) (nI c)) 40 0 (80 + 10 * n + 1) (ev)) 40 0 (80 + 10 * n + 2) (pl)) 40 0 (80 + 10 * n + 3) (if kd = 2 then 1 else 0)) 40 0 (80 + 10 * n + 4) (nI (dd + de))) 40 0 (80 + 10 * n + 5) (nI (dd + de + le - 1))) 40 0 (80 + 10 * n + 6) (pr)) 40 0 (80 + 10 * n + 7) (0)) 40 0 (80 + 10 * n + 8) (0)) 40 0 (80 + 10 * n + 9) (0)) := by
  have w1 : wi (nI de) 0 99 = 1 := by unfold wi; rw [if_neg (nI_pos (by omega)), if_neg (ng_99 hde)]
  have w2 : wi (nI le) 1 60 = 1 := by unfold wi; rw [if_neg (nl_1 hle (by omega)), if_neg (ng_60 hle2)]
  have q1 : (if ixB (nI c) C = 0 then some 0 else (f_R_isEvent ev ν).bind (fun r38 => if r38 = 0 then some 0 else if kd = 1 then some 1 else (f_R_isPlace pl ν).bind (fun r39 => if r39 = 0 then some 0 else some 1)) : Option Int32) = some 1 := by
    rw [ixB_in (by omega) hc, if_neg (by decide), R_isEvent h6 (by omega), bind_s, hev, if_neg (by decide)]
    by_cases k : kd = 1
    · rw [if_pos k]
    · rw [if_neg k, R_isPlace hP7 (by omega), bind_s, hpl.resolve_left k, if_neg (by decide)]
  have b5 : r 40 0 10 = nI n := by rw [h40]; exact h5
  have b1 : r 40 0 5 = nI dd := by rw [h40]; exact h1
  have b23 : r 13 0 23 = nI de := (h13 23 (by omega)).trans g1
  have b24 : r 13 0 24 = nI le := (h13 24 (by omega)).trans g2
  have b25 : r 13 0 25 = pr := (h13 25 (by omega)).trans g3
  have e28 : (28 : Int32) + 3 * nI c + 1 = nI (28 + 3 * c + 1) := by rw [show (28 : Int32) = nI 28 from rfl, show (3 : Int32) = nI 3 from rfl, show (1 : Int32) = nI 1 from rfl, pk_mul, nI_add, nI_add]
  have k28 : inb (nI (28 + 3 * c + 1)) 524 = true := inb_of (by omega) (by omega)
  have c28 : (nI (28 + 3 * c + 1)).toNatClampNeg = 28 + 3 * c + 1 := nI_clamp (by omega)
  have d1 : nI dd + nI de = nI (dd + de) := nI_add _ _
  have d2 : nI (dd + de) + nI le - 1 = nI (dd + de + le - 1) := by rw [nI_add, show (1 : Int32) = nI 1 from rfl, pk_sub (by omega)]
  unfold f_R_selling
  rw [R_isCustomer h8 (by omega), bind_s, q1, bind_s, right_1 h7, bind_s, if_neg n1_, snd_, R_within, bind_s, g1, w1, if_neg (by decide), R_within, bind_s, g2, w2, if_neg (by decide), R_within, bind_s, g3, hpr, if_neg (by decide), bind_s, right_1 h7, bind_s, if_neg n1_, snd_,
    ib_10_524, chk_t, tn_10, h5, if_neg (gl_24 hn), R_ofCustomer1 (by omega), bind_s, g3, if_neg hpu, bind_s, right_1 h7, bind_s, if_neg n1_, snd_, hch, bind_s, chk_t, b5, nm_9, chk_t, chk_t, nm_9, nI_1, e28, k28, chk_t, chk_t, c28, nm_9, ib_0_524, chk_t, chk_t, tn_0, nm_9]
  simp only [st3_K (show 13 ≠ 40 by omega), b25, st3_ua]
  rw [ua_N (show 28 + 3 * c + 1 ≠ 10 by omega), ua_N (show 0 ≠ 28 + 3 * c + 1 by omega), ua_N (show 0 ≠ 10 by omega), R_puts0 (by omega), bind_s, R_puts1 (by omega), bind_s, R_puts2 (by omega), bind_s]
  have e9 : (if kd = 2 then some 1 else some 0 : Option Int32) = some (if kd = 2 then 1 else 0) := by split <;> rfl
  rw [e9, bind_s, R_puts3 (by omega), bind_s, ib_5_524, chk_t, tn_5]
  simp only [st3_K (show 13 ≠ 40 by omega), b23, b24, b25, st3_ua]
  rw [ua_N (by omega), ua_N (by omega), ua_N (by omega), ua_N (by omega), ua_N (by omega), ua_N (by omega), ua_N (by omega), b1, d1, R_puts4 (by omega), bind_s, chk_t]
  simp only [st3_K (show 13 ≠ 40 by omega), b23, b24, b25, st3_ua]
  rw [ua_N (by omega), ua_N (by omega), ua_N (by omega), ua_N (by omega), ua_N (by omega), ua_N (by omega), ua_N (by omega), ua_N (by omega), b1, d1, d2, R_puts5 (by omega), bind_s]
  simp only [st3_K (show 13 ≠ 40 by omega), b23, b24, b25]
  rw [R_puts6 (by omega), bind_s, R_puts7 (by omega), bind_s, R_puts8 (by omega), bind_s, R_puts9 (by omega), bind_s]
theorem C_fault {xc kd xe xp xd xl xr : Int32} (h0 : μ 9 j 0 = nI s) (hs : s < 2) (h3 : μ 3 (3 * s) 1 = nI E) (h4 : μ 3 (3 * s + 1) 1 = nI P) (h5 : μ 3 (3 * s + 2) 1 = nI C) (hn : μ 9 j 5 = nI n) :
    f_Shop_faultOfSale j xc kd xe xp xd xl xr μ = (if ixB xc C = 0 then some 1 else if ixB xe E = 0 then some 1 else if (if kd = 1 then (1 : Int32) else ixB xp P) = 0 then some 1 else if wi xd 0 99 = 0 then some 2 else if wi xl 1 60 = 0 then some 2 else if wi xr 1 999 = 0 then some 2 else if (24 : Int32) ≤ nI n then some 3 else (f_Shop_coinsOf j xc μ).bind (fun r9 => if xr ≤ r9 then some 0 else some 3)) := by
  unfold f_Shop_faultOfSale
  simp only [hS_of h0 hs, decide_eq_true hs, chk_t, C_has h4, C_has h5, C_has h3, C_within, bind_s, hn]
  have e : (if kd = 1 then some 1 else if ixB xp P = 0 then some 0 else some 1 : Option Int32) = some (if kd = 1 then (1 : Int32) else ixB xp P) := by
    split
    · rfl
    · rcases (show ixB xp P = 0 ∨ ixB xp P = 1 by unfold ixB; split; exact Or.inl rfl; exact Or.inr rfl) with z | z <;> rw [z] <;> rfl
  rw [e, bind_s]
theorem st3_same {X Y : Mem} {K j f : Nat} {x : Int32} (h : X K = Y K) : st3 X K j f x K = st3 Y K j f x K := by
  funext j' f'
  unfold st3
  rw [h]
def selQ2 (ν : Mem) (x1 x2 x3 x4 : Int32) : Option Int32 := (f_R_isCustomer x1 ν).bind (fun r1 => if r1 = 0 then some 0 else (f_R_isEvent x2 ν).bind (fun r38 => if r38 = 0 then some 0 else if x4 = 1 then some 1 else (f_R_isPlace x3 ν).bind (fun r39 => if r39 = 0 then some 0 else some 1)))
theorem R_selq {x1 x2 x3 x4 : Int32} {z : Int32} (h : selQ2 ν x1 x2 x3 x4 = some z) {F : Int32 → Option (Int32 × Mem)} : (f_R_isCustomer x1 ν).bind (fun r1 => ((if r1 = 0 then (some (0)) else (((f_R_isEvent x2 ν)).bind (fun r38 => if r38 = 0 then (some (0)) else (if x4 = 1 then (some (1)) else (((f_R_isPlace x3 ν)).bind (fun r39 => if r39 = 0 then (some (0)) else (some (1))))))) : Option (Int32))).bind F) = F z := by
  unfold selQ2 at h
  cases hc : f_R_isCustomer x1 ν with
  | none => rw [hc] at h; cases h
  | some r1 =>
    rw [hc, bind_s] at h
    rw [bind_s, h, bind_s]
theorem R_sel0 {x1 x2 x3 x4 : Int32} (h7 : ν 13 0 7 = 0) (h : selQ2 ν x1 x2 x3 x4 = some 0) : f_R_selling x1 x2 x3 x4 ν = some (0, st3 ν 13 0 7 1) := by
  unfold f_R_selling
  rw [R_selq h, right_0 h7 (by decide), bind_s, if_pos rfl]
theorem R_sel1 {x1 x2 x3 x4 xd xl xr : Int32} (h7 : ν 13 0 7 = 0) (h : selQ2 ν x1 x2 x3 x4 = some 1) (g1 : ν 13 0 23 = xd) (g2 : ν 13 0 24 = xl) (g3 : ν 13 0 25 = xr) (hw : wi xd 0 99 = 0 ∨ wi xl 1 60 = 0 ∨ wi xr 1 999 = 0) : f_R_selling x1 x2 x3 x4 ν = some (0, st3 ν 13 0 7 2) := by
  unfold f_R_selling
  rw [R_selq h, right_1 h7, bind_s, if_neg n1_, snd_, g1, R_within, bind_s, g2, R_within, bind_s, g3, R_within, bind_s]
  have e : (if wi xd 0 99 = 0 then some 0 else if wi xl 1 60 = 0 then some 0 else if wi xr 1 999 = 0 then some 0 else some 1 : Option Int32) = some 0 := by
    by_cases c1 : wi xd 0 99 = 0
    · rw [if_pos c1]
    · rw [if_neg c1]
      by_cases c2 : wi xl 1 60 = 0
      · rw [if_pos c2]
      · rw [if_neg c2, if_pos ((hw.resolve_left c1).resolve_left c2)]
  rw [e, bind_s, right_0 h7 (by decide), bind_s, if_pos rfl]
theorem R_sel2 {x2 x3 x4 xd xl xr : Int32} {c : Nat} (hc : c < 8) (h7 : ν 13 0 7 = 0) (h : selQ2 ν (nI c) x2 x3 x4 = some 1) (g1 : ν 13 0 23 = xd) (g2 : ν 13 0 24 = xl) (g3 : ν 13 0 25 = xr) (w1 : wi xd 0 99 = 1) (w2 : wi xl 1 60 = 1) (w3 : wi xr 1 999 = 1) (h5 : ν 40 0 10 = nI n) (hw : (24 : Int32) ≤ nI n ∨ ν 40 0 (28 + 3 * c + 1) < xr) : f_R_selling (nI c) x2 x3 x4 ν = some (0, st3 ν 13 0 7 3) := by
  unfold f_R_selling
  rw [R_selq h, right_1 h7, bind_s, if_neg n1_, snd_, g1, R_within, bind_s, g2, R_within, bind_s, g3, R_within, bind_s, w1, w2, w3, if_neg (by decide), if_neg (by decide), if_neg (by decide), bind_s, right_1 h7, bind_s, if_neg n1_, snd_, ib_10_524, chk_t, tn_10, h5, R_ofCustomer1 (by omega), bind_s, g3]
  have e : (if (24 : Int32) ≤ nI n then some 0 else if ν 40 0 (28 + 3 * c + 1) < xr then some 0 else some 1 : Option Int32) = some 0 := by
    by_cases c1 : (24 : Int32) ≤ nI n
    · rw [if_pos c1]
    · rw [if_neg c1, if_pos (hw.resolve_left c1)]
  rw [e, bind_s, right_0 h7 (by decide), bind_s, if_pos rfl]
theorem L_sale (h0 : μ 9 j 0 = nI s) (hT : ST μ s (ν 40 0) E P C O) (H : SH μ j (ν 40 0) E P C O n w t dd) (hdd : dd ≤ 9999) (h7 : ν 13 0 7 = 0) {xc kd xe xp xd xl xr : Int32} (hkd : (kd = 1 ∧ xp = -1) ∨ kd = 0 ∨ kd = 2) (g1 : ν 13 0 23 = xd) (g2 : ν 13 0 24 = xl) (g3 : ν 13 0 25 = xr) :
    ∃ k, OP j s E P C O n w t dd ν k (nI k) (f_Shop_faultOfSale j xc kd xe xp xd xl xr μ) (f_R_selling xc xe xp kd ν) (fun m => f_Shop_addProphecy j xc kd xe xp xd xl xr m) := by
  have hT0 := hT
  obtain ⟨hs, hE, hP, hC, hO, ⟨t3, a6⟩, ⟨t4, a7⟩, ⟨t5, a8⟩, -⟩ := hT
  have hs9 := H.1
  obtain ⟨hn, hw, ht, -, s1, a5, s2, s5, a10, -⟩ := H.1
  have eC := C_fault (xc := xc) (kd := kd) (xe := xe) (xp := xp) (xd := xd) (xl := xl) (xr := xr) h0 hs t3 t4 t5 s5
  rcases ixB_c xc (n := C) (by omega) with ⟨ec, -, -⟩ | ⟨ec, c, hc, rfl⟩
  · refine ⟨1, by rw [eC, if_pos ec]; rfl, by omega, fun _ => ⟨by decide, R_sel0 h7 ?_⟩, fun z => absurd z (by decide)⟩
    unfold selQ2; rw [R_isCustomer a8 (by omega), bind_s, ec, if_pos rfl]
  · rw [ec, if_neg (by decide)] at eC
    have q0 : selQ2 ν (nI c) xe xp kd = (if ixB xe E = 0 then some 0 else if kd = 1 then some 1 else if ixB xp P = 0 then some 0 else some 1) := by
      unfold selQ2; rw [R_isCustomer a8 (by omega), bind_s, ec, if_neg (by decide), R_isEvent a6 (by omega), bind_s, R_isPlace a7 (by omega), bind_s]
    by_cases ee : ixB xe E = 0
    · rw [if_pos ee] at eC q0
      exact ⟨1, eC, by omega, fun _ => ⟨by decide, R_sel0 h7 q0⟩, fun z => absurd z (by decide)⟩
    · rw [if_neg ee] at eC q0
      by_cases ep : (if kd = 1 then (1 : Int32) else ixB xp P) = 0
      · rw [if_pos ep] at eC
        have k1 : ¬ kd = 1 := fun z => by rw [if_pos z] at ep; exact absurd ep (by decide)
        rw [if_neg k1] at ep
        rw [if_neg k1, if_pos ep] at q0
        exact ⟨1, eC, by omega, fun _ => ⟨by decide, R_sel0 h7 q0⟩, fun z => absurd z (by decide)⟩
      · rw [if_neg ep] at eC
        have hpl : kd = 1 ∨ ixB xp P = 1 := by
          by_cases k1 : kd = 1
          · exact Or.inl k1
          · rw [if_neg k1] at ep
            exact Or.inr ((show ixB xp P = 0 ∨ ixB xp P = 1 by unfold ixB; split; exact Or.inl rfl; exact Or.inr rfl).resolve_left ep)
        have q1 : selQ2 ν (nI c) xe xp kd = some 1 := by
          rw [q0]
          by_cases k1 : kd = 1
          · rw [if_pos k1]
          · rw [if_neg k1, hpl.resolve_left k1, if_neg (by decide)]
        have hev : ixB xe E = 1 := (show ixB xe E = 0 ∨ ixB xe E = 1 by unfold ixB; split; exact Or.inl rfl; exact Or.inr rfl).resolve_left ee
        by_cases c1 : wi xd 0 99 = 0
        · rw [if_pos c1] at eC
          exact ⟨2, eC, by omega, fun _ => ⟨by decide, R_sel1 h7 q1 g1 g2 g3 (Or.inl c1)⟩, fun z => absurd z (by decide)⟩
        · rw [if_neg c1] at eC
          by_cases c2 : wi xl 1 60 = 0
          · rw [if_pos c2] at eC
            exact ⟨2, eC, by omega, fun _ => ⟨by decide, R_sel1 h7 q1 g1 g2 g3 (Or.inr (Or.inl c2))⟩, fun z => absurd z (by decide)⟩
          · rw [if_neg c2] at eC
            by_cases c3 : wi xr 1 999 = 0
            · rw [if_pos c3] at eC
              exact ⟨2, eC, by omega, fun _ => ⟨by decide, R_sel1 h7 q1 g1 g2 g3 (Or.inr (Or.inr c3))⟩, fun z => absurd z (by decide)⟩
            · rw [if_neg c3] at eC
              have w1 := (wi_01 xd 0 99).resolve_left c1
              have w2 := (wi_01 xl 1 60).resolve_left c2
              have w3 := (wi_01 xr 1 999).resolve_left c3
              have hpu : μ 27 j c = ν 40 0 (28 + 3 * c + 1) := H.2.2.2.1.1 c hc
              by_cases c4 : (24 : Int32) ≤ nI n
              · rw [if_pos c4] at eC
                exact ⟨3, eC, by omega, fun _ => ⟨by decide, R_sel2 (by omega) h7 q1 g1 g2 g3 w1 w2 w3 a10 (Or.inl c4)⟩, fun z => absurd z (by decide)⟩
              · rw [if_neg c4, C_coinsOf (by omega), bind_s, hpu] at eC
                by_cases c5 : xr ≤ ν 40 0 (28 + 3 * c + 1)
                · rw [if_pos c5] at eC
                  obtain ⟨de, -, hde, rfl⟩ := wi_1 (a := 0) (b := 99) (by omega) (by omega) w1
                  obtain ⟨le, hle, hle2, rfl⟩ := wi_1 (a := 1) (b := 60) (by omega) (by omega) w2
                  have hn24 : n < 24 := by
                    apply Classical.byContradiction; intro z; exact c4 (lg_24 (by omega) (by omega))
                  have hlt : ¬ ν 40 0 (28 + 3 * c + 1) < xr := by
                    rw [Int32.lt_iff_toInt_lt]; rw [Int32.le_iff_toInt_le] at c5; omega
                  refine ⟨0, eC, by omega, fun z => absurd rfl z, fun _ r hr h40 h13 => ?_⟩
                  have eM := R_sold (E := E) (P := P) hr h7 hC hE hP a8 a6 a7 h40 h13 a10 hn24 a5 hdd hc hev hpl hde hle hle2 w3 hlt g1 g2 g3
                  refine ⟨_, _, eM, ?_, fun μ' h0' hT' H' => ?_⟩
                  · exact ((((((((((((FrN.rf.st (dyn_q (by omega))).st (dyn_pur (by omega))).st (dyn_q (by omega))).st (dyn_row hn24)).st (dyn_row hn24)).st (dyn_row hn24)).st (dyn_row hn24)).st (dyn_row hn24)).st (dyn_row hn24)).st (dyn_row hn24)).st (dyn_row hn24)).st (dyn_row hn24)).st (dyn_row hn24)
                  · have eA := C_add (μ := μ') (j := j) (n := n) (dd := dd) (c := c) (kd := kd) (ev := xe) (pl := xp) (pr := xr) (de := de) (le := le) (by obtain ⟨-, -, -, -, -, -, -, z, -⟩ := H'.1; exact z) hn24 (by obtain ⟨-, -, -, -, z, -⟩ := H'.1; exact z) hdd (by omega) hde hle hle2
                    refine ⟨_, n + 1, w, t, dd, eA, hdd, ?_, ?_⟩
                    · have v9 : μ' 9 j 2 = ν 40 0 0 := by obtain ⟨-, -, -, -, -, -, z, -⟩ := H'.1; exact z
                      have v27 : μ' 27 j c = ν 40 0 (28 + 3 * c + 1) := H'.2.2.2.1.1 c hc
                      rw [v9, v27]
                      have H1 : SH (st3 μ' 9 j 2 (ν 40 0 0 + xr)) j (ua (ν 40 0) 0 (ν 40 0 0 + xr)) E P C O n w t dd := H'.setS hC hO (fun K hK => by rw [st3_K hK]) (fun k hk => ua_N (by omega)) (by rw [st3_ua]; exact Ss_cash H'.1)
                      have H2 := H1.setC c (ν 40 0 (28 + 3 * c + 1) + -xr) hc hC hO
                      refine SH_addP H2 hn24 hC hO ?_ (fun K k5 k9 => ?_) (fun p hp => ?_) (fun k k10 hk => ?_) ?_ ?_
                      · simp only [st3_ua, st3_K (show 9 ≠ 27 by omega), st3_K (show 9 ≠ 5 by omega)]
                      · by_cases k27 : K = 27
                        · subst k27
                          rw [st3_K k9, st3_K k9]
                          exact st3_same (by simp only [st3_K k9, st3_K k5])
                        · simp only [st3_K k9, st3_K k27, st3_K k5]
                      · simp only [st3_K (show 5 ≠ 9 by omega), st3_K (show 5 ≠ 27 by omega), st3_J (show 24 * j + p ≠ 24 * j + n by omega)]
                      · simp only [st3_ua, h40]
                        rw [ua_N (by omega), ua_N (by omega), ua_N (by omega), ua_N (by omega), ua_N (by omega), ua_N (by omega), ua_N (by omega), ua_N (by omega), ua_N (by omega), ua_N (by omega)]
                        by_cases e0 : k = 0
                        · subst e0; rw [ua_S, ua_N (by omega), ua_S]
                        · rw [ua_N e0]
                          by_cases e1 : k = 28 + 3 * c + 1
                          · subst e1; rw [ua_S, ua_S, Int32.sub_eq_add_neg]
                          · rw [ua_N e1, ua_N k10, ua_N e1, ua_N e0]
                      · simp only [st3_ua, h40]
                        rw [ua_N (by omega), ua_N (by omega), ua_N (by omega), ua_N (by omega), ua_N (by omega), ua_N (by omega), ua_N (by omega), ua_N (by omega), ua_N (by omega), ua_N (by omega), ua_N (by omega), ua_N (by omega), ua_S]
                      · simp only [st3_ua, h40, st3_K (show 5 ≠ 9 by omega), st3_K (show 5 ≠ 27 by omega)]
                        obtain ⟨e', he', rfl⟩ := ((ixB_c xe (n := E) (by omega)).resolve_left (fun z => ee z.1)).2
                        refine ⟨⟨c, hc, (by rw [ua_N (by omega), ua_N (by omega), ua_N (by omega), ua_N (by omega), ua_N (by omega), ua_N (by omega), ua_N (by omega), ua_N (by omega), ua_S]), (by rw [ua_N (by omega), ua_N (by omega), ua_N (by omega), ua_N (by omega), ua_N (by omega), ua_N (by omega), ua_N (by omega), ua_N (by omega), ua_N (by omega), ua_S])⟩, ⟨e', he', (by rw [ua_N (by omega), ua_N (by omega), ua_N (by omega), ua_N (by omega), ua_N (by omega), ua_N (by omega), ua_S]), (by rw [ua_N (by omega), ua_N (by omega), ua_N (by omega), ua_N (by omega), ua_N (by omega), ua_N (by omega), ua_N (by omega), ua_N (by omega), ua_S])⟩, ?_, ⟨dd + de, by omega, (by rw [ua_N (by omega), ua_N (by omega), ua_N (by omega), ua_N (by omega), ua_S]), (by rw [ua_N (by omega), ua_N (by omega), ua_N (by omega), ua_N (by omega), ua_N (by omega), ua_S])⟩, ⟨dd + de + le - 1, by omega, (by rw [ua_N (by omega), ua_N (by omega), ua_N (by omega), ua_S]), (by rw [ua_N (by omega), ua_N (by omega), ua_N (by omega), ua_N (by omega), ua_S])⟩, ?_, ?_, Or.inl (by rw [ua_N (by omega), ua_N (by omega), ua_S]), fun z => absurd (by rw [ua_N (by omega), ua_N (by omega), ua_S]) z, ?_⟩
                        · rcases hkd with ⟨rfl, rfl⟩ | rfl | rfl
                          · exact Or.inl ⟨(by rw [ua_N (by omega), ua_N (by omega), ua_N (by omega), ua_N (by omega), ua_N (by omega), ua_N (by omega), ua_N (by omega), ua_S]), (by rw [ua_N (by omega), ua_N (by omega), ua_N (by omega), ua_N (by omega), ua_N (by omega), ua_S]), (by rw [ua_N (by omega), ua_N (by omega), ua_N (by omega), ua_N (by omega), ua_N (by omega), ua_N (by omega), ua_N (by omega), ua_S]), by rw [ua_N (by omega), ua_N (by omega), ua_N (by omega), ua_N (by omega), ua_N (by omega), ua_N (by omega), ua_S]; rfl⟩
                          · obtain ⟨l', hl', rfl⟩ := ((ixB_c xp (n := P) (by omega)).resolve_left (fun z => absurd (z.1.symm.trans (hpl.resolve_left (by decide))) (by decide))).2
                            exact Or.inr (Or.inl ⟨(by rw [ua_N (by omega), ua_N (by omega), ua_N (by omega), ua_N (by omega), ua_N (by omega), ua_N (by omega), ua_N (by omega), ua_S]), ⟨l', hl', (by rw [ua_N (by omega), ua_N (by omega), ua_N (by omega), ua_N (by omega), ua_N (by omega), ua_S]), (by rw [ua_N (by omega), ua_N (by omega), ua_N (by omega), ua_N (by omega), ua_N (by omega), ua_N (by omega), ua_N (by omega), ua_S])⟩, by rw [ua_N (by omega), ua_N (by omega), ua_N (by omega), ua_N (by omega), ua_N (by omega), ua_N (by omega), ua_S]; rfl⟩)
                          · obtain ⟨l', hl', rfl⟩ := ((ixB_c xp (n := P) (by omega)).resolve_left (fun z => absurd (z.1.symm.trans (hpl.resolve_left (by decide))) (by decide))).2
                            exact Or.inr (Or.inr ⟨(by rw [ua_N (by omega), ua_N (by omega), ua_N (by omega), ua_N (by omega), ua_N (by omega), ua_N (by omega), ua_N (by omega), ua_S]), ⟨l', hl', (by rw [ua_N (by omega), ua_N (by omega), ua_N (by omega), ua_N (by omega), ua_N (by omega), ua_S]), (by rw [ua_N (by omega), ua_N (by omega), ua_N (by omega), ua_N (by omega), ua_N (by omega), ua_N (by omega), ua_N (by omega), ua_S])⟩, by rw [ua_N (by omega), ua_N (by omega), ua_N (by omega), ua_N (by omega), ua_N (by omega), ua_N (by omega), ua_S]; rfl⟩)
                        · rw [ua_N (by omega), ua_N (by omega), ua_S, ua_N (by omega), ua_N (by omega), ua_N (by omega), ua_S]
                        · rw [ua_N (by omega), ua_S, ua_N (by omega), ua_N (by omega), ua_S]
                        · rw [ua_S, ua_S]
                    · exact (((((((((((FrC.rf.st5 hn24).st5 hn24).st5 hn24).st5 hn24).st5 hn24).st5 hn24).st5 hn24).st5 hn24).st5 hn24).stA (by omega)).st9 (by omega)).st9 (by omega)
                · rw [if_neg c5] at eC
                  have hlt : ν 40 0 (28 + 3 * c + 1) < xr := by
                    rw [Int32.lt_iff_toInt_lt]; rw [Int32.le_iff_toInt_le] at c5; omega
                  exact ⟨3, eC, by omega, fun _ => ⟨by decide, R_sel2 (by omega) h7 q1 g1 g2 g3 w1 w2 w3 a10 (Or.inr hlt)⟩, fun z => absurd z (by decide)⟩
end Sale

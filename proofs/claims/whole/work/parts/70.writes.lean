/-! What the model writes: letters, names, numbers. -/
def OUTM (ν : Mem) (l : List Nat) : Prop := ν 13 0 28 = nI l.length ∧ ∀ i, i < l.length → ν 49 0 i = nI (l.getD i 0)
def FRW (ν v : Mem) : Prop := (∀ K, K ≠ 13 → K ≠ 49 → K ≠ 50 → v K = ν K) ∧ ∀ f, f ≠ 28 → v 13 0 f = ν 13 0 f
theorem FRW.rf {ν : Mem} : FRW ν ν := ⟨fun _ _ _ _ => rfl, fun _ _ => rfl⟩
theorem FRW.tr {ν v v' : Mem} (h : FRW ν v) (h' : FRW v v') : FRW ν v' := ⟨fun K a b c => (h'.1 K a b c).trans (h.1 K a b c), fun f a => (h'.2 f a).trans (h.2 f a)⟩
/-- the digits of a number -/
def digs (v : Nat) : List Nat := (List.range (dl v)).map (fun j => 48 + v / 10 ^ (dl v - 1 - j) % 10)
def lts (w : List Nat) : List Nat := w.map (fun l => 96 + l)
theorem digs_len {v : Nat} : (digs v).length = dl v := by unfold digs; rw [List.length_map, List.length_range]
theorem digs_at {v j : Nat} (h : j < dl v) : (digs v).getD j 0 = 48 + v / 10 ^ (dl v - 1 - j) % 10 := by
  unfold digs
  rw [List.getD_eq_getElem?_getD, List.getElem?_map, List.getElem?_range h]
  rfl
theorem getD_app1 {l r : List Nat} {i : Nat} (h : i < l.length) : (l ++ r).getD i 0 = l.getD i 0 := by
  rw [List.getD_eq_getElem?_getD, List.getD_eq_getElem?_getD, List.getElem?_append_left h]
theorem getD_app2 {l r : List Nat} {i : Nat} (h : l.length ≤ i) : (l ++ r).getD i 0 = r.getD (i - l.length) 0 := by
  rw [List.getD_eq_getElem?_getD, List.getD_eq_getElem?_getD, List.getElem?_append_right h]
theorem snoc_ind {P : List Nat → Prop} (h0 : P []) (h1 : ∀ w x, P w → P (w ++ [x])) : ∀ w, P w := by
  intro w
  have H : ∀ w : List Nat, P w.reverse := by
    intro w
    induction w with
    | nil => exact h0
    | cons x w ih => rw [List.reverse_cons]; exact h1 _ _ ih
  have := H w.reverse
  rwa [List.reverse_reverse] at this
theorem dl_pw {v : Nat} (h : v < 100000) : v < 10 ^ dl v ∧ (dl v = 1 ∨ 10 ^ (dl v - 1) ≤ v) := by
  unfold dl
  repeat' split
  all_goals simp
  all_goals omega
theorem take_snoc {w : List Nat} {i : Nat} (h : i < w.length) : w.take (i + 1) = w.take i ++ [w.getD i 0] := by
  rw [List.take_add_one, List.getD_eq_getElem?_getD, List.getElem?_eq_getElem h]
  rfl
section Writes
variable {ν : Mem} {l : List Nat}
theorem W_one {c : Nat} (h : OUTM ν l) (hl : l.length < 200) : ∃ v, f_R_writes (nI c) ν = some v ∧ OUTM v (l ++ [c]) ∧ FRW ν v ∧ v 50 = ν 50 := by
  obtain ⟨h1, h2⟩ := h
  refine ⟨st3 (st3 ν 49 0 l.length (nI c)) 13 0 28 (nI (l.length + 1)), ?_, ⟨?_, fun i hi => ?_⟩, ⟨fun K k1 k2 k3 => by rw [st3_K k1, st3_K k2], fun f hf => by rw [st3_ua, ua_N hf, st3_K (by omega)]⟩, by rw [st3_K (by omega), st3_K (by omega)]⟩
  · unfold f_R_writes
    rw [h1, chk_of (inb_of hl (by omega)), nI_clamp (by omega), nm_9, st3_K (show 13 ≠ 49 by omega), h1, nI_1, nm_9]
  · rw [st3_ua, ua_S, List.length_append]
    rfl
  · rw [List.length_append] at hi
    replace hi : i < l.length + 1 := hi
    rw [st3_K (by omega), st3_ua]
    by_cases e : i = l.length
    · subst e
      rw [ua_S, getD_app2 (Nat.le_refl _), Nat.sub_self]
      rfl
    · rw [ua_N e, getD_app1 (by omega)]
      exact h2 i (by omega)
theorem fb_dig {b : Nat} (hb : 27 ≤ b) : ∀ (w : List Nat), lets w → ∀ j, j < w.length → fb b w / b ^ j % b = w.getD (w.length - 1 - j) 0 := by
  intro w
  refine snoc_ind (P := fun w => lets w → ∀ j, j < w.length → fb b w / b ^ j % b = w.getD (w.length - 1 - j) 0) (fun _ j hj => absurd hj (Nat.not_lt_zero _)) (fun w x ih => ?_) w
  · intro hw j hj
    rw [List.length_append] at hj ⊢
    replace hj : j < w.length + 1 := hj
    show _ = (w ++ [x]).getD (w.length + 1 - 1 - j) 0
    have hx := hw x (by simp)
    rw [fb_snoc]
    cases j with
    | zero =>
      rw [Nat.pow_zero, Nat.div_one, Nat.mul_add_mod, Nat.mod_eq_of_lt (by omega), getD_app2 (by omega), show w.length + 1 - 1 - 0 - w.length = 0 by omega]
      rfl
    | succ j =>
      rw [Nat.pow_succ, Nat.mul_comm (b ^ j) b, ← Nat.div_div_eq_div_mul, Nat.mul_add_div (by omega), Nat.div_eq_of_lt (show x < b by omega), Nat.add_zero, ih (fun z hz => hw z (by simp [hz])) j (by omega), getD_app1 (by omega)]
      congr 1
      omega
theorem fb_ge {b : Nat} (hb : 27 ≤ b) : ∀ (w : List Nat), lets w → w ≠ [] → b ^ (w.length - 1) ≤ fb b w := by
  intro w
  refine snoc_ind (P := fun w => lets w → w ≠ [] → b ^ (w.length - 1) ≤ fb b w) (fun _ h => absurd rfl h) (fun w x ih => ?_) w
  · intro hw _
    have hx := hw x (by simp)
    rw [List.length_append]
    show b ^ (w.length + 1 - 1) ≤ _
    rw [fb_snoc]
    by_cases e : w = []
    · subst e
      show 1 ≤ _
      omega
    · have := ih (fun z hz => hw z (by simp [hz])) e
      have hl : w.length ≠ 0 := fun z => e (List.length_eq_zero_iff.mp z)
      rw [show w.length + 1 - 1 = (w.length - 1) + 1 by omega, Nat.pow_succ, Nat.mul_comm]
      exact Nat.le_trans (Nat.mul_le_mul_left b this) (Nat.le_add_right _ _)
theorem pow27 {j : Nat} (h : j ≤ 5) : 27 ^ j ≤ 14348907 := Nat.le_trans (Nat.pow_le_pow_right (by omega) h) (by decide)
theorem lts_snoc {w : List Nat} {i : Nat} (h : i < w.length) : lts (w.take (i + 1)) = lts (w.take i) ++ [96 + w.getD i 0] := by
  unfold lts
  rw [List.take_add_one, List.map_append, List.getD_eq_getElem?_getD, List.getElem?_eq_getElem h]
  rfl
theorem W_name {w : List Nat} (hw : okw w) (h : OUTM ν l) (hl : l.length + 6 ≤ 200) : ∃ v, f_R_writesName (nI (e27 w)) ν = some v ∧ OUTM v (l ++ lts w) ∧ FRW ν v := by
  obtain ⟨h0, h6, hlet⟩ := hw
  have hn : w.length ≠ 0 := fun z => h0 (List.length_eq_zero_iff.mp z)
  have hlt : e27 w < 27 ^ w.length := fb_lt (by omega) hlet
  have hge : 27 ^ (w.length - 1) ≤ e27 w := fb_ge (by omega) w hlet h0
  have h30 := e27_lt ⟨h0, h6, hlet⟩
  have p1 : it (fun (s : Int32) => s_R_writesName_2 (nI (e27 w)) s ν) LIM 1 = some (nI (27 ^ (w.length - 1))) := by
    suffices H : ∃ r, it (fun (s : Int32) => s_R_writesName_2 (nI (e27 w)) s ν) LIM 1 = some r ∧ r = nI (27 ^ (w.length - 1)) by
      obtain ⟨r, a, b⟩ := H
      rw [a, b]
    refine it_for (fun i q => q = nI (27 ^ i)) (fun q => q = nI (27 ^ (w.length - 1))) (w.length - 1) 0 (by omega) (by omega) rfl (fun i hi q hq => ?_) (fun q hq => ?_)
    · subst hq
      have e1 := pow27 (j := i) (by omega)
      have e2 := pow27 (j := i + 1) (by omega)
      refine ⟨_, ?_, rfl⟩
      show s_R_writesName_2 _ _ _ = _
      unfold s_R_writesName_2
      have e3 : 27 ^ (i + 1) ≤ e27 w := Nat.le_trans (Nat.pow_le_pow_right (by omega) (by omega)) hge
      have e4 : 27 ^ i ≤ e27 w / 27 := by
        rw [Nat.pow_succ] at e3
        exact (Nat.le_div_iff_mul_le (by omega)).mpr e3
      rw [show nI (e27 w) / 27 = nI (e27 w / 27) from pk_div (d := 27) (by omega) (by omega) (by omega), if_neg (nI_nlt e4 (by omega)), nm_9, show nI (27 ^ i) * 27 = nI (27 ^ (i + 1)) from (Int32.ofNat_mul _ 27).symm]
    · subst hq
      refine ⟨_, ?_, rfl⟩
      show s_R_writesName_2 _ _ _ = _
      unfold s_R_writesName_2
      have e1 := pow27 (j := w.length - 1) (by omega)
      have e4 : e27 w / 27 < 27 ^ (w.length - 1) := by
        apply Nat.div_lt_of_lt_mul
        rw [Nat.mul_comm, ← Nat.pow_succ, show (w.length - 1).succ = w.length by omega]
        exact hlt
      rw [show nI (e27 w) / 27 = nI (e27 w / 27) from pk_div (d := 27) (by omega) (by omega) (by omega), if_pos (nI_lt e4 (by omega))]
  have p2 : ∃ v, it (fun (s : Int32 × Mem) => s_R_writesName_20 (nI (e27 w)) s.1 s.2) LIM (nI (27 ^ (w.length - 1)), ν) = some v ∧ OUTM v (l ++ lts w) ∧ FRW ν v := by
    refine it_for (fun i (q : Int32 × Mem) => q.1 = (if i < w.length then nI (27 ^ (w.length - 1 - i)) else 0) ∧ OUTM q.2 (l ++ lts (w.take i)) ∧ FRW ν q.2) (fun q => OUTM q (l ++ lts w) ∧ FRW ν q) w.length 0 (by omega) (by omega) ⟨by rw [if_pos (by omega), Nat.sub_zero], by simpa [lts] using h, FRW.rf⟩ (fun i hi q hq => ?_) (fun q hq => ?_)
    · obtain ⟨q1, q2, q3⟩ := hq
      obtain ⟨x, m⟩ := q
      rw [if_pos hi] at q1
      replace q1 : x = nI (27 ^ (w.length - 1 - i)) := q1
      subst q1
      have e1 := pow27 (j := w.length - 1 - i) (by omega)
      have e0 : 1 ≤ 27 ^ (w.length - 1 - i) := Nat.pow_pos (by omega)
      have hd := fb_dig (b := 27) (by omega) w hlet (w.length - 1 - i) (by omega)
      rw [show w.length - 1 - (w.length - 1 - i) = i by omega] at hd
      have hlen : (l ++ lts (w.take i)).length = l.length + i := by
        rw [List.length_append]
        unfold lts
        rw [List.length_map, List.length_take]
        omega
      obtain ⟨v, c1, c2, c3, -⟩ := W_one (c := 96 + w.getD i 0) q2 (by omega)
      refine ⟨((if i + 1 < w.length then nI (27 ^ (w.length - 1 - (i + 1))) else 0), v), ?_, rfl, ?_, q3.tr c3⟩
      · show s_R_writesName_20 _ _ m = _
        unfold s_R_writesName_20
        have ex : (96 : Int32) + (nI (e27 w) / nI (27 ^ (w.length - 1 - i)) - nI (e27 w) / nI (27 ^ (w.length - 1 - i)) / 27 * 27) = nI (96 + w.getD i 0) := by
          rw [pk_div (by omega) (by omega) (by omega)]
          have hq : e27 w / 27 ^ (w.length - 1 - i) ≤ e27 w := Nat.div_le_self _ _
          generalize hz : e27 w / 27 ^ (w.length - 1 - i) = z at *
          have hz2 : fb 27 w / 27 ^ (w.length - 1 - i) = z := hz
          rw [hz2] at hd
          rw [show nI z / 27 = nI (z / 27) from pk_div (d := 27) (by omega) (by omega) (by omega), show nI (z / 27) * 27 = nI (z / 27 * 27) from (Int32.ofNat_mul _ 27).symm, nI_sub (by omega), show (96 : Int32) = nI 96 from rfl, nI_add, ← hd]
          congr 1
          omega
        rw [if_neg (show ¬ nI (27 ^ (w.length - 1 - i)) ≤ 0 from nI_ge (a := 0) (by omega) (by omega)), chk_of (decide_eq_true (show ¬ nI (27 ^ (w.length - 1 - i)) = 0 from fun z => by have := (nI_eq (a := 27 ^ (w.length - 1 - i)) (b := 0) (by omega) (by omega)).mp z; omega)), ex, c1, bind_s, nm_9]
        congr 3
        rw [show nI (27 ^ (w.length - 1 - i)) / 27 = nI (27 ^ (w.length - 1 - i) / 27) from pk_div (d := 27) (by omega) (by omega) (by omega)]
        by_cases e : i + 1 < w.length
        · rw [if_pos e, show w.length - 1 - i = (w.length - 1 - (i + 1)) + 1 by omega, Nat.pow_succ, Nat.mul_div_cancel _ (by omega)]
        · rw [if_neg e, show w.length - 1 - i = 0 by omega]
          rfl
      · rw [lts_snoc hi, ← List.append_assoc]
        exact c2
    · obtain ⟨q1, q2, q3⟩ := hq
      obtain ⟨x, m⟩ := q
      rw [if_neg (by omega)] at q1
      replace q1 : x = 0 := q1
      subst q1
      rw [List.take_length] at q2
      exact ⟨m, by show s_R_writesName_20 _ 0 m = _; unfold s_R_writesName_20; rw [if_pos (by decide)], q2, q3⟩
  obtain ⟨v, a, b⟩ := p2
  exact ⟨v, by unfold f_R_writesName; rw [p1, bind_s, a, bind_s], b⟩
theorem W_num {v : Nat} (hv : v < 100000) (h : OUTM ν l) (hl : l.length + 6 ≤ 200) : ∃ m, f_R_writesNumber (nI v) ν = some m ∧ OUTM m (l ++ digs v) ∧ FRW ν m := by
  obtain ⟨d1, d2⟩ := dl_le (w := v)
  obtain ⟨hlt, hge⟩ := dl_pw hv
  have p1 : ∃ m, it (fun (s : Int32 × Int32 × Mem) => s_R_writesNumber_4 s.1 s.2.1 s.2.2) LIM (nI v, 0, ν) = some (nI (dl v), m) ∧ (OUTM m l ∧ FRW ν m ∧ ∀ j, j < dl v → m 50 0 j = nI (48 + v / 10 ^ j % 10)) := by
    suffices H : ∃ r, it (fun (s : Int32 × Int32 × Mem) => s_R_writesNumber_4 s.1 s.2.1 s.2.2) LIM (nI v, 0, ν) = some r ∧ (r.1 = nI (dl v) ∧ OUTM r.2 l ∧ FRW ν r.2 ∧ ∀ j, j < dl v → r.2 50 0 j = nI (48 + v / 10 ^ j % 10)) by
      obtain ⟨⟨r1, r2⟩, a, b1, b2⟩ := H
      exact ⟨r2, by rw [a]; rw [show r1 = nI (dl v) from b1], b2⟩
    have hst : ∀ i, i < dl v → ∀ m : Mem, (OUTM m l ∧ FRW ν m ∧ ∀ j, j < i → m 50 0 j = nI (48 + v / 10 ^ j % 10)) → ∃ m', (OUTM m' l ∧ FRW ν m' ∧ ∀ j, j < i + 1 → m' 50 0 j = nI (48 + v / 10 ^ j % 10)) ∧ s_R_writesNumber_4 (nI (v / 10 ^ i)) (nI i) m = if i + 1 < dl v then some (.inl (nI (v / 10 ^ (i + 1)), nI (i + 1), m')) else some (.inr (nI (i + 1), m')) := by
      intro i hi m hm
      obtain ⟨m1, m2, m3⟩ := hm
      have hz : v / 10 ^ i ≤ v := Nat.div_le_self _ _
      have hz2 : v / 10 ^ (i + 1) = v / 10 ^ i / 10 := by rw [Nat.pow_succ, Nat.div_div_eq_div_mul]
      refine ⟨st3 m 50 0 i (nI (48 + v / 10 ^ i % 10)), ⟨⟨by rw [st3_K (by omega)]; exact m1.1, fun j hj => by rw [st3_K (by omega)]; exact m1.2 j hj⟩, m2.tr ⟨fun K a b c => by rw [st3_K c], fun f hf => by rw [st3_K (by omega)]⟩, fun j hj => ?_⟩, ?_⟩
      · rw [st3_ua]
        by_cases e : j = i
        · rw [e, ua_S]
        · rw [ua_N e]
          exact m3 j (by omega)
      · unfold s_R_writesNumber_4
        have ex : (48 : Int32) + (nI (v / 10 ^ i) - nI (v / 10 ^ i) / 10 * 10) = nI (48 + v / 10 ^ i % 10) := by
          generalize v / 10 ^ i = z at *
          rw [show nI z / 10 = nI (z / 10) from pk_div (d := 10) (by omega) (by omega) (by omega), show nI (z / 10) * 10 = nI (z / 10 * 10) from (Int32.ofNat_mul _ 10).symm, nI_sub (by omega), show (48 : Int32) = nI 48 from rfl, nI_add]
          congr 1
          omega
        rw [chk_of (inb_of (by omega) (by omega)), nI_clamp (by omega), ex, nm_9, show nI (v / 10 ^ i) / 10 = nI (v / 10 ^ i / 10) from pk_div (d := 10) (by omega) (by omega) (by omega), nm_9, nI_1, ← hz2]
        by_cases e : i + 1 < dl v
        · have : 10 ^ (i + 1) ≤ 10 ^ (dl v - 1) := Nat.pow_le_pow_right (by omega) (by omega)
          have h1 : 0 < v / 10 ^ (i + 1) := Nat.div_pos (by omega) (Nat.pow_pos (by omega))
          rw [if_pos (show (0 : Int32) < nI (v / 10 ^ (i + 1)) from nI_lt (a := 0) h1 (by omega)), if_pos e]
        · have h1 : v / 10 ^ (i + 1) = 0 := Nat.div_eq_of_lt (by rw [show i + 1 = dl v by omega]; exact hlt)
          rw [h1, if_neg (show ¬ (0 : Int32) < nI 0 by decide), if_neg e]
    refine it_for (fun i (q : Int32 × Int32 × Mem) => i < dl v ∧ q.1 = nI (v / 10 ^ i) ∧ q.2.1 = nI i ∧ (OUTM q.2.2 l ∧ FRW ν q.2.2 ∧ ∀ j, j < i → q.2.2 50 0 j = nI (48 + v / 10 ^ j % 10))) (fun (r : Int32 × Mem) => r.1 = nI (dl v) ∧ OUTM r.2 l ∧ FRW ν r.2 ∧ ∀ j, j < dl v → r.2 50 0 j = nI (48 + v / 10 ^ j % 10)) (dl v - 1) 0 (by omega) (by omega) ⟨by omega, by rw [Nat.pow_zero, Nat.div_one], rfl, h, FRW.rf, fun j hj => absurd hj (Nat.not_lt_zero _)⟩ (fun i hi q hq => ?_) (fun q hq => ?_)
    · obtain ⟨q0, q1, q2, q3⟩ := hq
      obtain ⟨x, n, m⟩ := q
      replace q1 : x = _ := q1
      replace q2 : n = _ := q2
      obtain ⟨m', a, b⟩ := hst i q0 m q3
      rw [if_pos (by omega)] at b
      subst q1 q2
      exact ⟨(_, _, m'), b, by omega, rfl, rfl, a⟩
    · obtain ⟨q0, q1, q2, q3⟩ := hq
      obtain ⟨x, n, m⟩ := q
      replace q1 : x = _ := q1
      replace q2 : n = _ := q2
      obtain ⟨m', a, b⟩ := hst _ q0 m q3
      rw [if_neg (by omega)] at b
      subst q1 q2
      rw [show dl v - 1 + 1 = dl v by omega] at a b
      exact ⟨(_, m'), b, rfl, a⟩
  obtain ⟨m, p1, p2, p3, p4⟩ := p1
  have p5 : ∃ k, it (fun (s : Int32 × Mem) => s_R_writesNumber_34 s.1 s.2) LIM (nI (dl v) - 1, m) = some k ∧ OUTM k (l ++ digs v) ∧ FRW ν k := by
    refine it_for (fun i (q : Int32 × Mem) => q.1 = nI (dl v - i) - 1 ∧ OUTM q.2 (l ++ (digs v).take i) ∧ FRW ν q.2 ∧ ∀ j, j < dl v → q.2 50 0 j = nI (48 + v / 10 ^ j % 10)) (fun k => OUTM k (l ++ digs v) ∧ FRW ν k) (dl v) 0 (by omega) (by omega) ⟨rfl, by rw [List.take_zero, List.append_nil]; exact p2, p3, p4⟩ (fun i hi q hq => ?_) (fun q hq => ?_)
    · obtain ⟨q1, q2, q3, q4⟩ := hq
      obtain ⟨x, k⟩ := q
      have ex : x = nI (dl v - 1 - i) := by
        rw [show x = nI (dl v - i) - 1 from q1, show (1 : Int32) = nI 1 from rfl, nI_sub (by omega)]
        congr 1
        omega
      subst ex
      have hlen : (l ++ (digs v).take i).length = l.length + i := by
        rw [List.length_append, List.length_take, digs_len]
        omega
      obtain ⟨k', c1, c2, c3, c4⟩ := W_one (c := 48 + v / 10 ^ (dl v - 1 - i) % 10) q2 (by omega)
      refine ⟨(nI (dl v - 1 - i) + (-1), k'), ?_, ?_, ?_, q3.tr c3, fun j hj => by show k' 50 0 j = _; rw [c4]; exact q4 j hj⟩
      · show s_R_writesNumber_34 _ k = _
        unfold s_R_writesNumber_34
        rw [if_neg (show ¬ nI (dl v - 1 - i) < 0 from nI_nlt (b := 0) (by omega) (by omega)), chk_of (inb_of (by omega) (by omega)), nI_clamp (by omega), show k 50 0 (dl v - 1 - i) = _ from q4 _ (by omega), c1, bind_s]
      · show nI (dl v - 1 - i) + (-1) = nI (dl v - (i + 1)) - 1
        rw [Int32.sub_eq_add_neg, show dl v - 1 - i = dl v - (i + 1) by omega]
      · show OUTM k' _
        rw [take_snoc (by rw [digs_len]; exact hi), digs_at hi, ← List.append_assoc]
        exact c2
    · obtain ⟨q1, q2, q3, q4⟩ := hq
      obtain ⟨x, k⟩ := q
      rw [Nat.sub_self] at q1
      replace q1 : x = -1 := q1
      subst q1
      have q2' : OUTM k (l ++ digs v) := by
        have : (digs v).take (dl v) = digs v := by rw [← digs_len (v := v), List.take_length]
        rw [this] at q2
        exact q2
      exact ⟨k, by show s_R_writesNumber_34 (-1) k = _; unfold s_R_writesNumber_34; rw [if_pos (by decide)], q2', q3⟩
  obtain ⟨k, a, b⟩ := p5
  exact ⟨k, by unfold f_R_writesNumber; rw [p1, bind_s, nm_9, a, bind_s], b⟩
end Writes

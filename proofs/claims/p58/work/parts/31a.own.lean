/-! The law's own shop, read as a row of numbers. -/
def colK (c : Nat) : Nat := if c < 3 then 68 + c else if c = 3 then 78 else 67 + c
def decR (k : Nat) : Nat × Nat :=
  if k < 15 then (60, k) else if k < 28 then (0, k)
  else if k < 52 then (if (k - 28) % 3 = 0 then 0 else 60 + (k - 28) % 3, (k - 28) / 3)
  else if k < 77 then (63 + (k - 52) % 5, (k - 52) / 5)
  else if k < 80 then (0, k)
  else if k < 320 then (colK ((k - 80) % 10), (k - 80) / 10)
  else if k < 500 then (if (k - 320) % 3 < 2 then 79 else 80, (k - 320) / 3)
  else (77, k - 500)
def nmC (c0 : Int32) (k : Nat) : Int32 := if k = 15 then c0 else if k < 22 then nI (e27 [5, k - 15]) else if k < 28 then nI (e27 [16, k - 21]) else nI (e27 [3, (k - 28) / 3 + 1])
def rO (c0 : Int32) (b : Nat) (v : Mem) : Nat → Int32 := fun k =>
  if (decR k).1 = 0 then nmC c0 k
  else if (decR k).1 = 79 then (if (k - 320) % 3 = 0 then v 79 b (decR k).2 / 6 else v 79 b (decR k).2 - v 79 b (decR k).2 / 6 * 6)
  else v (decR k).1 b (decR k).2
def encR (K f : Nat) : Nat := if K = 60 then f else if K ≤ 62 then 28 + 3 * f + (K - 60) else if K ≤ 67 then 52 + 5 * f + (K - 63) else if K ≤ 70 then 80 + 10 * f + (K - 68) else if K ≤ 76 then 80 + 10 * f + (K - 67) else if K = 77 then 500 + f else if K = 78 then 80 + 10 * f + 3 else 320 + 3 * f + 2
theorem encR_dec {k : Nat} (h0 : (decR k).1 ≠ 0) (h9 : (decR k).1 ≠ 79) : encR (decR k).1 (decR k).2 = k := by
  unfold decR at h0 h9 ⊢
  by_cases h1 : k < 15
  · rw [if_pos h1]
    exact if_pos rfl
  rw [if_neg h1] at h0 h9 ⊢
  by_cases h2 : k < 28
  · rw [if_pos h2] at h0
    exact absurd rfl h0
  rw [if_neg h2] at h0 h9 ⊢
  by_cases h3 : k < 52
  · rw [if_pos h3] at h0 ⊢
    by_cases h4 : (k - 28) % 3 = 0
    · rw [if_pos h4] at h0
      exact absurd rfl h0
    · rw [if_neg h4]
      show encR (60 + (k - 28) % 3) ((k - 28) / 3) = k
      unfold encR
      rw [if_neg (by omega), if_pos (by omega)]
      omega
  rw [if_neg h3] at h0 h9 ⊢
  by_cases h5 : k < 77
  · rw [if_pos h5]
    show encR (63 + (k - 52) % 5) ((k - 52) / 5) = k
    unfold encR
    rw [if_neg (by omega), if_neg (by omega), if_pos (by omega)]
    omega
  rw [if_neg h5] at h0 h9 ⊢
  by_cases h6 : k < 80
  · rw [if_pos h6] at h0
    exact absurd rfl h0
  rw [if_neg h6] at h0 h9 ⊢
  by_cases h7 : k < 320
  · rw [if_pos h7]
    show encR (colK ((k - 80) % 10)) ((k - 80) / 10) = k
    unfold colK encR
    by_cases g1 : (k - 80) % 10 < 3
    · rw [if_pos g1, if_neg (by omega), if_neg (by omega), if_neg (by omega), if_pos (by omega)]
      omega
    · rw [if_neg g1]
      by_cases g2 : (k - 80) % 10 = 3
      · rw [if_pos g2, if_neg (by omega), if_neg (by omega), if_neg (by omega), if_neg (by omega), if_neg (by omega), if_neg (by omega), if_pos rfl]
        omega
      · rw [if_neg g2, if_neg (by omega), if_neg (by omega), if_neg (by omega), if_neg (by omega), if_pos (by omega)]
        omega
  rw [if_neg h7] at h0 h9 ⊢
  by_cases h8 : k < 500
  · rw [if_pos h8] at h9 ⊢
    by_cases g1 : (k - 320) % 3 < 2
    · rw [if_pos g1] at h9
      exact absurd rfl h9
    · rw [if_neg g1]
      show encR 80 ((k - 320) / 3) = k
      unfold encR
      rw [if_neg (by omega), if_neg (by omega), if_neg (by omega), if_neg (by omega), if_neg (by omega), if_neg (by omega), if_neg (by omega)]
      omega
  rw [if_neg h8]
  show encR 77 (k - 500) = k
  unfold encR
  rw [if_neg (by omega), if_neg (by omega), if_neg (by omega), if_neg (by omega), if_neg (by omega), if_pos rfl]
  omega
theorem rO_at {c0 : Int32} {b K f k : Nat} {v : Mem} (h : decR k = (K, f)) (h0 : K ≠ 0) (h9 : K ≠ 79) : rO c0 b v k = v K b f := by
  unfold rO
  rw [h, if_neg (show ¬ (K, f).1 = 0 from h0), if_neg (show ¬ (K, f).1 = 79 from h9)]
theorem rO_st {c0 : Int32} {b K f k0 : Nat} {v : Mem} {x : Int32} (h : decR k0 = (K, f)) (h0 : K ≠ 0) (h9 : K ≠ 79) : rO c0 b (st3 v K b f x) = ua (rO c0 b v) k0 x := by
  funext k
  by_cases e : k = k0
  · subst e
    rw [ua_S, rO_at h h0 h9]
    unfold st3
    exact if_pos ⟨rfl, rfl, rfl⟩
  · rw [ua_N e]
    unfold rO
    by_cases h1 : (decR k).1 = 0
    · rw [if_pos h1, if_pos h1]
    · rw [if_neg h1, if_neg h1]
      by_cases h2 : (decR k).1 = 79
      · rw [if_pos h2, if_pos h2, st3_K (show 79 ≠ K from fun z => h9 z.symm)]
      · rw [if_neg h2, if_neg h2]
        unfold st3
        rw [if_neg]
        rintro ⟨q1, -, q3⟩
        apply e
        have g : encR (decR k0).1 (decR k0).2 = k0 := encR_dec (by rw [h]; exact h0) (by rw [h]; exact h9)
        rw [h] at g
        rw [← encR_dec h1 h2, q1, q3]
        exact g
theorem dR_0 {f : Nat} (h : f < 15) : decR f = (60, f) := by
  unfold decR
  rw [if_pos h]
theorem dR_c {c r : Nat} (hc : c < 8) (h1 : 1 ≤ r) (h2 : r ≤ 2) : decR (28 + 3 * c + r) = (60 + r, c) := by
  unfold decR
  rw [if_neg (by omega), if_neg (by omega), if_pos (by omega), show (28 + 3 * c + r - 28) % 3 = r by omega, show (28 + 3 * c + r - 28) / 3 = c by omega, if_neg (by omega)]
theorem dR_o {o r : Nat} (ho : o < 5) (hr : r < 5) : decR (52 + 5 * o + r) = (63 + r, o) := by
  unfold decR
  rw [if_neg (by omega), if_neg (by omega), if_neg (by omega), if_pos (by omega), show (52 + 5 * o + r - 52) % 5 = r by omega, show (52 + 5 * o + r - 52) / 5 = o by omega]
theorem dR_p {p r : Nat} (hp : p < 24) (hr : r < 10) : decR (80 + 10 * p + r) = (colK r, p) := by
  unfold decR
  rw [if_neg (by omega), if_neg (by omega), if_neg (by omega), if_neg (by omega), if_neg (by omega), if_pos (by omega), show (80 + 10 * p + r - 80) % 10 = r by omega, show (80 + 10 * p + r - 80) / 10 = p by omega]
theorem dR_d {i : Nat} (hi : i < 60) : decR (320 + 3 * i + 2) = (80, i) := by
  unfold decR
  rw [if_neg (by omega), if_neg (by omega), if_neg (by omega), if_neg (by omega), if_neg (by omega), if_neg (by omega), if_pos (by omega), if_neg (by omega), show (320 + 3 * i + 2 - 320) / 3 = i by omega]
theorem dR_n {i r : Nat} (hi : i < 60) (hr : r < 2) : decR (320 + 3 * i + r) = (79, i) := by
  unfold decR
  rw [if_neg (by omega), if_neg (by omega), if_neg (by omega), if_neg (by omega), if_neg (by omega), if_neg (by omega), if_pos (by omega), if_pos (by omega), show (320 + 3 * i + r - 320) / 3 = i by omega]
theorem dR_q {k : Nat} : decR (500 + k) = (77, k) := by
  unfold decR
  rw [if_neg (by omega), if_neg (by omega), if_neg (by omega), if_neg (by omega), if_neg (by omega), if_neg (by omega), if_neg (by omega), Nat.add_sub_cancel_left]
section Row
variable {c0 : Int32} {b : Nat} {v : Mem} {x : Int32}
theorem ro_0 {f : Nat} (h : f < 15) : rO c0 b v f = v 60 b f := rO_at (dR_0 h) (by decide) (by decide)
theorem ro_c1 {c : Nat} (h : c < 8) : rO c0 b v (28 + 3 * c + 1) = v 61 b c := rO_at (dR_c h (by decide) (by decide)) (by decide) (by decide)
theorem ro_c2 {c : Nat} (h : c < 8) : rO c0 b v (28 + 3 * c + 2) = v 62 b c := rO_at (dR_c h (by decide) (by decide)) (by decide) (by decide)
theorem ro_o0 {o : Nat} (h : o < 5) : rO c0 b v (52 + 5 * o + 0) = v 63 b o := rO_at (dR_o h (by decide)) (by decide) (by decide)
theorem ro_o1 {o : Nat} (h : o < 5) : rO c0 b v (52 + 5 * o + 1) = v 64 b o := rO_at (dR_o h (by decide)) (by decide) (by decide)
theorem ro_o2 {o : Nat} (h : o < 5) : rO c0 b v (52 + 5 * o + 2) = v 65 b o := rO_at (dR_o h (by decide)) (by decide) (by decide)
theorem ro_o3 {o : Nat} (h : o < 5) : rO c0 b v (52 + 5 * o + 3) = v 66 b o := rO_at (dR_o h (by decide)) (by decide) (by decide)
theorem ro_o4 {o : Nat} (h : o < 5) : rO c0 b v (52 + 5 * o + 4) = v 67 b o := rO_at (dR_o h (by decide)) (by decide) (by decide)
theorem ro_p0 {p : Nat} (h : p < 24) : rO c0 b v (80 + 10 * p + 0) = v 68 b p := rO_at (dR_p h (by decide)) (by decide) (by decide)
theorem ro_p1 {p : Nat} (h : p < 24) : rO c0 b v (80 + 10 * p + 1) = v 69 b p := rO_at (dR_p h (by decide)) (by decide) (by decide)
theorem ro_p2 {p : Nat} (h : p < 24) : rO c0 b v (80 + 10 * p + 2) = v 70 b p := rO_at (dR_p h (by decide)) (by decide) (by decide)
theorem ro_p3 {p : Nat} (h : p < 24) : rO c0 b v (80 + 10 * p + 3) = v 78 b p := rO_at (dR_p h (by decide)) (by decide) (by decide)
theorem ro_p4 {p : Nat} (h : p < 24) : rO c0 b v (80 + 10 * p + 4) = v 71 b p := rO_at (dR_p h (by decide)) (by decide) (by decide)
theorem ro_p5 {p : Nat} (h : p < 24) : rO c0 b v (80 + 10 * p + 5) = v 72 b p := rO_at (dR_p h (by decide)) (by decide) (by decide)
theorem ro_p6 {p : Nat} (h : p < 24) : rO c0 b v (80 + 10 * p + 6) = v 73 b p := rO_at (dR_p h (by decide)) (by decide) (by decide)
theorem ro_p7 {p : Nat} (h : p < 24) : rO c0 b v (80 + 10 * p + 7) = v 74 b p := rO_at (dR_p h (by decide)) (by decide) (by decide)
theorem ro_p8 {p : Nat} (h : p < 24) : rO c0 b v (80 + 10 * p + 8) = v 75 b p := rO_at (dR_p h (by decide)) (by decide) (by decide)
theorem ro_p9 {p : Nat} (h : p < 24) : rO c0 b v (80 + 10 * p + 9) = v 76 b p := rO_at (dR_p h (by decide)) (by decide) (by decide)
theorem ro_q {k : Nat} : rO c0 b v (500 + k) = v 77 b k := rO_at dR_q (by decide) (by decide)
theorem ro_d {i : Nat} (h : i < 60) : rO c0 b v (320 + 3 * i + 2) = v 80 b i := rO_at (dR_d h) (by decide) (by decide)
theorem ro_n0 {i : Nat} (h : i < 60) : rO c0 b v (320 + 3 * i + 0) = v 79 b i / 6 := by
  unfold rO
  rw [dR_n h (by decide), if_neg (show ¬ (79, i).1 = 0 from (by decide : ¬ (79 : Nat) = 0)), if_pos (show (79, i).1 = 79 from rfl), if_pos (by omega)]
theorem ro_n1 {i : Nat} (h : i < 60) : rO c0 b v (320 + 3 * i + 1) = v 79 b i - v 79 b i / 6 * 6 := by
  unfold rO
  rw [dR_n h (by decide), if_neg (show ¬ (79, i).1 = 0 from (by decide : ¬ (79 : Nat) = 0)), if_pos (show (79, i).1 = 79 from rfl), if_neg (by omega)]
theorem sto_0 {f : Nat} (h : f < 15) : rO c0 b (st3 v 60 b f x) = ua (rO c0 b v) f x := rO_st (dR_0 h) (by decide) (by decide)
theorem sto_c1 {c : Nat} (h : c < 8) : rO c0 b (st3 v 61 b c x) = ua (rO c0 b v) (28 + 3 * c + 1) x := rO_st (dR_c h (by decide) (by decide)) (by decide) (by decide)
theorem sto_c2 {c : Nat} (h : c < 8) : rO c0 b (st3 v 62 b c x) = ua (rO c0 b v) (28 + 3 * c + 2) x := rO_st (dR_c h (by decide) (by decide)) (by decide) (by decide)
theorem sto_o0 {o : Nat} (h : o < 5) : rO c0 b (st3 v 63 b o x) = ua (rO c0 b v) (52 + 5 * o + 0) x := rO_st (dR_o h (by decide)) (by decide) (by decide)
theorem sto_o1 {o : Nat} (h : o < 5) : rO c0 b (st3 v 64 b o x) = ua (rO c0 b v) (52 + 5 * o + 1) x := rO_st (dR_o h (by decide)) (by decide) (by decide)
theorem sto_o2 {o : Nat} (h : o < 5) : rO c0 b (st3 v 65 b o x) = ua (rO c0 b v) (52 + 5 * o + 2) x := rO_st (dR_o h (by decide)) (by decide) (by decide)
theorem sto_o3 {o : Nat} (h : o < 5) : rO c0 b (st3 v 66 b o x) = ua (rO c0 b v) (52 + 5 * o + 3) x := rO_st (dR_o h (by decide)) (by decide) (by decide)
theorem sto_o4 {o : Nat} (h : o < 5) : rO c0 b (st3 v 67 b o x) = ua (rO c0 b v) (52 + 5 * o + 4) x := rO_st (dR_o h (by decide)) (by decide) (by decide)
theorem sto_p0 {p : Nat} (h : p < 24) : rO c0 b (st3 v 68 b p x) = ua (rO c0 b v) (80 + 10 * p + 0) x := rO_st (dR_p h (by decide)) (by decide) (by decide)
theorem sto_p1 {p : Nat} (h : p < 24) : rO c0 b (st3 v 69 b p x) = ua (rO c0 b v) (80 + 10 * p + 1) x := rO_st (dR_p h (by decide)) (by decide) (by decide)
theorem sto_p2 {p : Nat} (h : p < 24) : rO c0 b (st3 v 70 b p x) = ua (rO c0 b v) (80 + 10 * p + 2) x := rO_st (dR_p h (by decide)) (by decide) (by decide)
theorem sto_p3 {p : Nat} (h : p < 24) : rO c0 b (st3 v 78 b p x) = ua (rO c0 b v) (80 + 10 * p + 3) x := rO_st (dR_p h (by decide)) (by decide) (by decide)
theorem sto_p4 {p : Nat} (h : p < 24) : rO c0 b (st3 v 71 b p x) = ua (rO c0 b v) (80 + 10 * p + 4) x := rO_st (dR_p h (by decide)) (by decide) (by decide)
theorem sto_p5 {p : Nat} (h : p < 24) : rO c0 b (st3 v 72 b p x) = ua (rO c0 b v) (80 + 10 * p + 5) x := rO_st (dR_p h (by decide)) (by decide) (by decide)
theorem sto_p6 {p : Nat} (h : p < 24) : rO c0 b (st3 v 73 b p x) = ua (rO c0 b v) (80 + 10 * p + 6) x := rO_st (dR_p h (by decide)) (by decide) (by decide)
theorem sto_p7 {p : Nat} (h : p < 24) : rO c0 b (st3 v 74 b p x) = ua (rO c0 b v) (80 + 10 * p + 7) x := rO_st (dR_p h (by decide)) (by decide) (by decide)
theorem sto_p8 {p : Nat} (h : p < 24) : rO c0 b (st3 v 75 b p x) = ua (rO c0 b v) (80 + 10 * p + 8) x := rO_st (dR_p h (by decide)) (by decide) (by decide)
theorem sto_p9 {p : Nat} (h : p < 24) : rO c0 b (st3 v 76 b p x) = ua (rO c0 b v) (80 + 10 * p + 9) x := rO_st (dR_p h (by decide)) (by decide) (by decide)
theorem sto_q {k : Nat} : rO c0 b (st3 v 77 b k x) = ua (rO c0 b v) (500 + k) x := rO_st dR_q (by decide) (by decide)
theorem sto_d {i : Nat} (h : i < 60) : rO c0 b (st3 v 80 b i x) = ua (rO c0 b v) (320 + 3 * i + 2) x := rO_st (dR_d h) (by decide) (by decide)
theorem sto_n {i : Nat} (h : i < 60) : rO c0 b (st3 v 79 b i x) = ua (ua (rO c0 b v) (320 + 3 * i + 0) (x / 6)) (320 + 3 * i + 1) (x - x / 6 * 6) := by
  funext k
  by_cases e1 : k = 320 + 3 * i + 1
  · subst e1
    rw [ua_S, ro_n1 h, st3_ua, ua_S]
  · rw [ua_N e1]
    by_cases e0 : k = 320 + 3 * i + 0
    · subst e0
      rw [ua_S, ro_n0 h, st3_ua, ua_S]
    · rw [ua_N e0]
      unfold rO
      by_cases h1 : (decR k).1 = 0
      · rw [if_pos h1, if_pos h1]
      · rw [if_neg h1, if_neg h1]
        by_cases h2 : (decR k).1 = 79
        · rw [if_pos h2, if_pos h2]
          have hk : (decR k).2 ≠ i := by
            unfold decR at h2 ⊢
            by_cases g1 : k < 15
            · rw [if_pos g1] at h2
              exact absurd h2 (show ¬ (60 : Nat) = 79 by decide)
            rw [if_neg g1] at h2 ⊢
            by_cases g2 : k < 28
            · rw [if_pos g2] at h2
              exact absurd h2 (show ¬ (0 : Nat) = 79 by decide)
            rw [if_neg g2] at h2 ⊢
            by_cases g3 : k < 52
            · rw [if_pos g3] at h2
              replace h2 : (if (k - 28) % 3 = 0 then 0 else 60 + (k - 28) % 3) = 79 := h2
              split at h2 <;> omega
            rw [if_neg g3] at h2 ⊢
            by_cases g4 : k < 77
            · rw [if_pos g4] at h2
              replace h2 : 63 + (k - 52) % 5 = 79 := h2
              omega
            rw [if_neg g4] at h2 ⊢
            by_cases g5 : k < 80
            · rw [if_pos g5] at h2
              exact absurd h2 (show ¬ (0 : Nat) = 79 by decide)
            rw [if_neg g5] at h2 ⊢
            by_cases g6 : k < 320
            · rw [if_pos g6] at h2
              replace h2 : colK ((k - 80) % 10) = 79 := h2
              unfold colK at h2
              split at h2
              · omega
              · split at h2 <;> omega
            rw [if_neg g6] at h2 ⊢
            by_cases g7 : k < 500
            · rw [if_pos g7] at h2 ⊢
              by_cases g8 : (k - 320) % 3 < 2
              · show (k - 320) / 3 ≠ i
                omega
              · rw [if_neg g8] at h2
                exact absurd h2 (show ¬ (80 : Nat) = 79 by decide)
            · rw [if_neg g7] at h2
              exact absurd h2 (show ¬ 77 = 79 by decide)
          rw [st3_ua, ua_N hk]
        · rw [if_neg h2, if_neg h2, st3_K h2]
end Row

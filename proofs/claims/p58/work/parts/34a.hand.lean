section HandO
variable {b : Nat} {ν : Mem} {w i r1 p : Nat} {x q : Int32}
/-- a request is answered: what the law's own shop is then, ahead of the flight -/
def hdY (b p w : Nat) (x : Int32) (ν : Mem) : Mem := shM (st3 (st3 (st3 ν 76 b p x) 60 b 13 (ν 60 b 13 + 1)) 60 b 12 (nI w)) 77 b 0 w
def hdV (b p o c T : Nat) (r x0 x14 : Int32) (Y : Mem) : Mem := st3 (st3 (st3 (st3 (st3 (st3 (st3 Y 67 b o (nI T)) 64 b o (nI T)) 65 b o r) 66 b o (nI c)) 60 b 0 (x0 - r)) 60 b 14 (x14 + r)) 74 b p 3
theorem O_hand0 (h1 : ν 60 b 1 = nI r1) (hi : i < r1) (hr9 : r1 ≤ 9) (h12 : ν 60 b 12 = nI (w + 1)) (hw : w + 1 ≤ 24) (h77 : ν 77 b 0 = nI p) (h24 : p < 24) (hexp : f_Own_expected b (nI p) ν = some x) (hidl : f_Own_idle b ν = some q) (h9 : x = 1 → q = ν 60 b 9) (hx : x = 1) : s_Own_passes_200 b (nI i) ν = some (.inr (.inr ν)) := by
  unfold s_Own_passes_200
  rw [h1, if_neg (nI_ge hi (by omega)), h12, if_neg (le_0 (by omega) (by omega)), ib_0_24, chk_t, tn_0, h77, nm_9 (nI p), hexp, bind_s, hidl, bind_s, if_pos hx, if_pos (h9 hx), bind_s, els_r]
theorem O_hand1 (h1 : ν 60 b 1 = nI r1) (hi : i < r1) (hr9 : r1 ≤ 9) (h12 : ν 60 b 12 = nI (w + 1)) (hw : w + 1 ≤ 24) (h77 : ν 77 b 0 = nI p) (h24 : p < 24) (hexp : f_Own_expected b (nI p) ν = some x) (hidl : f_Own_idle b ν = some q) (hx : x ≠ 1) : s_Own_passes_200 b (nI i) ν = some (.inl (nI (i + 1), hdY b p w x ν)) := by
  have hbp : inb (nI p) 24 = true := inb_of h24 (by omega)
  have hcp : (nI p).toNatClampNeg = p := nI_clamp (by omega)
  have m13 : st3 ν 76 b p x 60 b 13 = ν 60 b 13 := by rw [st3_K (by omega)]
  have m12 : ∀ y : Int32, st3 (st3 ν 76 b p x) 60 b 13 y 60 b 12 - 1 = nI w := fun y => by rw [st3_f (by omega), st3_K (by omega), h12, nI_pred]
  unfold s_Own_passes_200
  rw [h1, if_neg (nI_ge hi (by omega)), h12, if_neg (le_0 (by omega) (by omega)), ib_0_24, chk_t, tn_0, h77, nm_9 (nI p), hexp, bind_s, hidl, bind_s, if_neg hx, bind_s, els_l, hbp, chk_t, hcp, nm_9, m13, nm_9, m12, nm_9, O_shift (nI i) (nI p) x q (by rw [st3_h]) (by omega), bind_s, if_neg hx, nI_1]
  rfl
theorem O_hand2 {o c d v T : Nat} {r x0 x14 : Int32} (h1 : ν 60 b 1 = nI r1) (hi : i < r1) (hr9 : r1 ≤ 9) (h12 : ν 60 b 12 = nI (w + 1)) (hw : w + 1 ≤ 24) (h77 : ν 77 b 0 = nI p) (h24 : p < 24) (hexp : f_Own_expected b (nI p) ν = some 1) (hidl : f_Own_idle b ν = some (nI o)) (h9 : ν 60 b 9 ≠ nI o)
    {Y : Mem} (hY : hdY b p w 1 ν = Y) (h5 : o < 5) (hc8 : c < 8) (y68 : Y 68 b p = nI c) (y62 : Y 62 b c = nI d) (y63 : Y 63 b o = nI v) (hv1 : 1 ≤ v) (hv2 : v ≤ 9) (hd2 : d ≤ 30) (hT : (d + v - 1) / v = T)
    (hRf : ∀ x y : Int32, f_Own_refund b (nI p) (st3 (st3 Y 67 b o x) 64 b o y) = some r) (y0 : Y 60 b 0 = x0) (y14 : Y 60 b 14 = x14) : s_Own_passes_200 b (nI i) ν = some (.inl (nI (i + 1), hdV b p o c T r x0 x14 Y)) := by
  have hbp : inb (nI p) 24 = true := inb_of h24 (by omega)
  have hcp : (nI p).toNatClampNeg = p := nI_clamp (by omega)
  have hbo : inb (nI o) 5 = true := inb_of h5 (by omega)
  have hco : (nI o).toNatClampNeg = o := nI_clamp (by omega)
  have hbc : inb (nI c) 8 = true := inb_of hc8 (by omega)
  have hcc : (nI c).toNatClampNeg = c := nI_clamp (by omega)
  have hnz : decide (¬ nI v = 0) = true := decide_eq_true (ne_0 (by omega) (by omega))
  have m13 : st3 ν 76 b p 1 60 b 13 = ν 60 b 13 := by rw [st3_K (by omega)]
  have m12 : ∀ y : Int32, st3 (st3 ν 76 b p 1) 60 b 13 y 60 b 12 - 1 = nI w := fun y => by rw [st3_f (by omega), st3_K (by omega), h12, nI_pred]
  have hfl := fly9 (d := d) (v := v) hd2 hv1 hv2
  rw [hT] at hfl
  unfold s_Own_passes_200
  rw [h1, if_neg (nI_ge hi (by omega)), h12, if_neg (le_0 (by omega) (by omega)), ib_0_24, chk_t, tn_0, h77, nm_9 (nI p), hexp, bind_s, hidl, bind_s, if_pos rfl, if_neg (fun z => h9 z.symm), bind_s, els_l, hbp, chk_t, hcp, nm_9, m13, nm_9, m12, nm_9, O_shift (nI i) (nI p) 1 (nI o) (by rw [st3_h]) (by omega), bind_s, if_pos rfl]
  rw [show shM (st3 (st3 (st3 ν 76 b p 1) 60 b 13 (ν 60 b 13 + 1)) 60 b 12 (nI w)) 77 b 0 w = Y from hY]
  rw [y68, hbc, chk_t, hbo, chk_t, hcc, hco, y63, hnz, chk_t, chk_t, chk_t, chk_t, chk_t, y62, bindif, hfl, chk_t, nm_9, chk_t, chk_t, st3_h, nm_9, hRf, bind_s, chk_t, nm_9, chk_t, chk_t, st3_K (show (68 : Nat) ≠ 65 by decide), st3_K (show (68 : Nat) ≠ 64 by decide), st3_K (show (68 : Nat) ≠ 67 by decide), y68, nm_9, chk_t, st3_K (show (60 : Nat) ≠ 66 by decide), st3_K (show (60 : Nat) ≠ 65 by decide), st3_K (show (60 : Nat) ≠ 64 by decide), st3_K (show (60 : Nat) ≠ 67 by decide), y0, st3_K (show (65 : Nat) ≠ 66 by decide), st3_h, nm_9, chk_t, st3_f (show (14 : Nat) ≠ 0 by decide), st3_K (show (60 : Nat) ≠ 66 by decide), st3_K (show (60 : Nat) ≠ 65 by decide), st3_K (show (60 : Nat) ≠ 64 by decide), st3_K (show (60 : Nat) ≠ 67 by decide), y14, st3_K (show (65 : Nat) ≠ 60 by decide), st3_K (show (65 : Nat) ≠ 66 by decide), st3_h, nm_9, chk_t, nm_9, nI_1]
  rfl
end HandO

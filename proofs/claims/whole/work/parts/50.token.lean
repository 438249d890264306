/-! The model's reader: tokens; both together. -/
theorem st3_cm {K f g : Nat} {x y : Int32} {μ : Mem} (h : f ≠ g) : st3 (st3 μ K 0 f x) K 0 g y = st3 (st3 μ K 0 g y) K 0 f x := by
  funext K' j' f'
  unfold st3
  (repeat' split) <;> first | rfl | omega
section Token2
variable {K : Nat} {μ ν : Mem} {B : Nat → Nat} {L b e : Nat}
def tkT (B : Nat → Nat) (L b : Nat) : Int32 := if b < L then (if isL (B b) then 1 else if isD (B b) then 2 else if B b = 59 ∨ B b = 40 ∨ B b = 41 then 3 else 4) else 0
theorem pD_first {L b : Nat} (h : b < L) (hd : isD (B b)) : adv (pD B) L b = adv (pD B) L (b + 1) := adv_step h (by unfold pD; exact decide_eq_true hd)
theorem pL_first {L b : Nat} (h : b < L) (hd : isL (B b)) : adv (pL B) L b = adv (pL B) L (b + 1) := adv_step h (by unfold pL; exact decide_eq_true hd)
theorem dv_I {b k x : Nat} (hx : x ≤ 255) (h48 : 48 ≤ x) (hB : B (b + k) = x) : (if ((10 : Int32) * nI (dv B b k) + nI x) - 48 < 1000000 then ((10 : Int32) * nI (dv B b k) + nI x) - 48 else 1000000) = nI (dv B b (k + 1)) := by
  have hd : dv B b k ≤ 1000000 := dv_le
  rw [show (10 : Int32) = nI 10 from rfl, pk_mul, nI_add, show (48 : Int32) = nI 48 from rfl, nI_sub (by omega)]
  show _ = nI (min 1000000 (10 * dv B b k + (B (b + k) - 48)))
  rw [hB, show 10 * dv B b k + x - 48 = 10 * dv B b k + (x - 48) by omega]
  by_cases c : 10 * dv B b k + (x - 48) < 1000000
  · rw [if_pos (ll_1000000 c), Nat.min_eq_right (by omega)]
  · rw [if_neg (nl_1000000 (by omega) (by omega)), Nat.min_eq_left (by omega)]; rfl
theorem dv_C {b k x : Nat} (hx : x ≤ 255) (h48 : 48 ≤ x) (hB : B (b + k) = x) : (if 1000000 < (nI (dv B b k) * 10 + nI x) - 48 then 1000000 else (nI (dv B b k) * 10 + nI x) - 48) = nI (dv B b (k + 1)) := by
  have hd : dv B b k ≤ 1000000 := dv_le
  rw [show (10 : Int32) = nI 10 from rfl, pk_mul, nI_add, show (48 : Int32) = nI 48 from rfl, nI_sub (by omega)]
  show _ = nI (min 1000000 (10 * dv B b k + (B (b + k) - 48)))
  rw [hB, show dv B b k * 10 + x - 48 = 10 * dv B b k + (x - 48) by omega]
  by_cases c : 1000000 < 10 * dv B b k + (x - 48)
  · rw [if_pos (gg_1000000 c (by omega)), Nat.min_eq_left (by omega)]; rfl
  · rw [if_neg (ng_1000000 (by omega)), Nat.min_eq_right (by omega)]
/-- the model's next token: its fields -/
theorem R_reads (h : TX μ ν B L) (h3 : ν 13 0 12 = nI e) (he : e ≤ L) : ∃ v, f_R_reads ν = some v ∧ (∀ K', K' ≠ 13 → v K' = ν K') ∧ (∀ f, f < 12 ∨ 15 < f → v 13 0 f = ν 13 0 f) ∧ v 13 0 13 = nI (adv (pB B) L e) ∧ v 13 0 12 = nI (tkE B L (adv (pB B) L e)) ∧ v 13 0 14 = tkT B L (adv (pB B) L e) ∧ (tkT B L (adv (pB B) L e) = 2 → v 13 0 15 = nI (dv B (adv (pB B) L e) (tkE B L (adv (pB B) L e) - adv (pB B) L e))) := by
  have hL := h.1
  have hat : ∀ m : Mem, (∀ K', K' ≠ 13 → m K' = ν K') → m 13 0 9 = ν 13 0 9 → ∀ i, i < 2 ^ 31 → f_R_seen (nI i) m = some (if i < L then nI (B i) else -1) := fun m hm h9 i hi => by
    have : TX μ m B L := ⟨h.1, h.2.1, by rw [h9]; exact h.2.2.1, by rw [hm 46 (by omega)]; exact h.2.2.2⟩
    exact R_seen this hi
  have l1 : it (fun (s : Mem) => s_R_reads_0 s) LIM (st3 ν 13 0 12 (nI e)) = some (st3 ν 13 0 12 (nI (adv (pB B) L e))) := by
    refine it_adv (f := fun (s : Mem) => s_R_reads_0 s) (pB B) L (fun i => st3 ν 13 0 12 (nI i)) (fun i => st3 ν 13 0 12 (nI i)) he (by omega) (fun z h1 h2 => ?_)
    show s_R_reads_0 (st3 ν 13 0 12 (nI z)) = _
    have hs := hat (st3 ν 13 0 12 (nI z)) (fun K' q => st3_K q) (by rw [st3_ua, ua_N (by omega)]) z (by omega)
    unfold s_R_reads_0
    have e12 : (st3 ν 13 0 12 (nI z)) 13 0 12 = nI z := by rw [st3_ua, ua_S]
    rw [e12, hs, bind_s, bind_s, nm_9, nI_1, st3_st]
    by_cases c : z < L
    · have hb := h.2.2.2 z c
      rw [if_pos c]
      unfold pB
      by_cases d1 : B z = 32
      · rw [if_pos (show nI (B z) = 32 from (nIl (k := 32) hb.2.1 (by omega)).mpr d1), if_pos ⟨c, by simp [d1]⟩]
      · rw [if_neg (show ¬ nI (B z) = 32 from fun q => d1 ((nIl (k := 32) hb.2.1 (by omega)).mp q))]
        by_cases d2 : B z = 10
        · rw [if_pos (show nI (B z) = 10 from (nIl (k := 10) hb.2.1 (by omega)).mpr d2), if_pos ⟨c, by simp [d2]⟩]
        · rw [if_neg (show ¬ nI (B z) = 10 from fun q => d2 ((nIl (k := 10) hb.2.1 (by omega)).mp q)), if_neg (by rintro ⟨-, q⟩; simp [d1, d2] at q)]
    · rw [if_neg c, if_neg (by decide), if_neg (by decide), if_neg (by rintro ⟨q, -⟩; exact c q)]
  have e0 : st3 ν 13 0 12 (nI e) = ν := by
    funext K' j' f'
    unfold st3
    split
    · rename_i q; obtain ⟨rfl, rfl, rfl⟩ := q; exact h3.symm
    · rfl
  rw [e0] at l1
  have hb0 := adv_le (P := pB B) (L := L) (i := e) rfl he
  generalize hb' : adv (pB B) L e = b' at l1 hb0
  generalize hm2 : st3 (st3 ν 13 0 12 (nI b')) 13 0 13 (nI b') = m2
  have mK : ∀ K', K' ≠ 13 → m2 K' = ν K' := fun K' q => by rw [← hm2, st3_K q, st3_K q]
  have mf : ∀ f, f < 12 ∨ 13 < f → m2 13 0 f = ν 13 0 f := fun f q => by rw [← hm2, st3_ua, ua_N (by omega), st3_ua, ua_N (by omega)]
  have m12 : m2 13 0 12 = nI b' := by rw [← hm2, st3_ua, ua_N (by omega), st3_ua, ua_S]
  have m13 : m2 13 0 13 = nI b' := by rw [← hm2, st3_ua, ua_S]
  have hs := hat m2 mK (mf 9 (by omega)) b' (by omega)
  have e12 : (st3 ν 13 0 12 (nI b')) 13 0 12 = nI b' := by rw [st3_ua, ua_S]
  unfold f_R_reads
  rw [l1, bind_s, e12, nm_9, hm2, m12, hs, bind_s]
  by_cases c : b' < L
  · have hb := h.2.2.2 b' c
    have et : tkT B L b' = if isL (B b') then 1 else if isD (B b') then 2 else if B b' = 59 ∨ B b' = 40 ∨ B b' = 41 then 3 else 4 := if_pos c
    have ee : tkE B L b' = if isL (B b') then adv (pL B) L (b' + 1) else if isD (B b') then adv (pD B) L (b' + 1) else b' + 1 := if_pos c
    rw [if_pos c, if_neg (ne_m1 (by omega)), R_within, bind_s, R_within, bind_s, wi_L hb.2.1, wi_D hb.2.1]
    by_cases d1 : isL (B b')
    · rw [if_pos d1] at et ee
      rw [if_pos d1, if_neg (by decide), nm_9]
      have lp : it (fun (s : Mem) => s_R_reads_85 s) LIM (st3 (st3 m2 13 0 14 1) 13 0 12 (nI b')) = some (st3 (st3 m2 13 0 14 1) 13 0 12 (nI (adv (pL B) L b'))) := by
        refine it_adv (f := fun (s : Mem) => s_R_reads_85 s) (pL B) L (fun i => st3 (st3 m2 13 0 14 1) 13 0 12 (nI i)) (fun i => st3 (st3 m2 13 0 14 1) 13 0 12 (nI i)) hb0 (by omega) (fun z h1 h2 => ?_)
        show s_R_reads_85 (st3 (st3 m2 13 0 14 1) 13 0 12 (nI z)) = _
        have hs := hat (st3 (st3 m2 13 0 14 1) 13 0 12 (nI z)) (fun K' q => by rw [st3_K q, st3_K q, mK K' q]) (by rw [st3_ua, ua_N (by omega), st3_ua, ua_N (by omega), mf 9 (by omega)]) z (by omega)
        unfold s_R_reads_85
        have e12 : (st3 (st3 m2 13 0 14 1) 13 0 12 (nI z)) 13 0 12 = nI z := by rw [st3_ua, ua_S]
        rw [e12, hs, bind_s, nm_9, nI_1, st3_st]
        by_cases c : z < L
        · have hb := h.2.2.2 z c
          rw [if_pos c, R_within, bind_s, wi_L hb.2.1]
          by_cases d : isL (B z)
          · rw [if_pos d, if_neg (by decide), if_pos ⟨c, by unfold pL; exact decide_eq_true d⟩]
          · rw [if_neg d, if_pos rfl, if_neg (by rintro ⟨-, q⟩; unfold pL at q; exact d (of_decide_eq_true q))]
        · rw [if_neg c, R_within, bind_s, show wi (-1) 97 122 = 0 by decide, if_pos rfl, if_neg (by rintro ⟨q, -⟩; exact c q)]
      have e1 : st3 (st3 m2 13 0 14 1) 13 0 12 (nI b') = st3 m2 13 0 14 1 := by
        funext K' j' f'
        unfold st3
        split
        · rename_i q; obtain ⟨rfl, rfl, rfl⟩ := q; rw [if_neg (by omega)]; exact m12.symm
        · rfl
      rw [e1] at lp
      rw [lp, bind_s]
      refine ⟨_, rfl, fun K' q => by rw [st3_K q, st3_K q, mK K' q], fun f q => by rw [st3_ua, ua_N (by omega), st3_ua, ua_N (by omega), mf f (by omega)], by rw [st3_ua, ua_N (by omega), st3_ua, ua_N (by omega)]; exact m13, by rw [st3_ua, ua_S, ee, pL_first c d1], by rw [st3_ua, ua_N (by omega), st3_ua, ua_S, et], fun q => ?_⟩
      rw [et] at q; exact absurd q (by decide)
    · rw [if_neg d1] at et ee
      rw [if_neg d1, if_pos rfl]
      by_cases d2 : isD (B b')
      · rw [if_pos d2] at et ee
        rw [if_pos d2, if_neg (by decide), nm_9, nm_9]
        have lp : it (fun (s : Mem) => s_R_reads_137 s) LIM (st3 (st3 (st3 m2 13 0 14 2) 13 0 15 (nI (dv B b' (b' - b')))) 13 0 12 (nI b')) = some (st3 (st3 (st3 m2 13 0 14 2) 13 0 15 (nI (dv B b' (adv (pD B) L b' - b')))) 13 0 12 (nI (adv (pD B) L b'))) := by
          refine it_adv (f := fun (s : Mem) => s_R_reads_137 s) (pD B) L (fun i => st3 (st3 (st3 m2 13 0 14 2) 13 0 15 (nI (dv B b' (i - b')))) 13 0 12 (nI i)) (fun i => st3 (st3 (st3 m2 13 0 14 2) 13 0 15 (nI (dv B b' (i - b')))) 13 0 12 (nI i)) hb0 (by omega) (fun z h1 h2 => ?_)
          show s_R_reads_137 (st3 (st3 (st3 m2 13 0 14 2) 13 0 15 (nI (dv B b' (z - b')))) 13 0 12 (nI z)) = _
          have hs := hat (st3 (st3 (st3 m2 13 0 14 2) 13 0 15 (nI (dv B b' (z - b')))) 13 0 12 (nI z)) (fun K' q => by rw [st3_K q, st3_K q, st3_K q, mK K' q]) (by rw [st3_ua, ua_N (by omega), st3_ua, ua_N (by omega), st3_ua, ua_N (by omega), mf 9 (by omega)]) z (by omega)
          unfold s_R_reads_137
          have e12 : (st3 (st3 (st3 m2 13 0 14 2) 13 0 15 (nI (dv B b' (z - b')))) 13 0 12 (nI z)) 13 0 12 = nI z := by rw [st3_ua, ua_S]
          have e15 : (st3 (st3 (st3 m2 13 0 14 2) 13 0 15 (nI (dv B b' (z - b')))) 13 0 12 (nI z)) 13 0 15 = nI (dv B b' (z - b')) := by rw [st3_ua, ua_N (by omega), st3_ua, ua_S]
          rw [e12, hs, bind_s, e15]
          by_cases c : z < L
          · have hb := h.2.2.2 z c
            rw [if_pos c, R_within, bind_s, wi_D hb.2.1, bind_s]
            by_cases d : isD (B z)
            · have d0 := d
              unfold isD at d0
              rw [if_pos d, if_neg (by decide), if_pos (show z < L ∧ pD B z = true from ⟨c, by unfold pD; exact decide_eq_true d⟩), dv_I (b := b') (k := z - b') (x := B z) hb.2.1 d0.1 (by rw [show b' + (z - b') = z by omega]), nm_9, nm_9, st3_ua, ua_N (by omega), st3_ua, ua_S, nI_1]
              have : st3 (st3 (st3 (st3 (st3 m2 13 0 14 2) 13 0 15 (nI (dv B b' (z - b')))) 13 0 12 (nI z)) 13 0 15 (nI (dv B b' (z - b' + 1)))) 13 0 12 (nI (z + 1)) = st3 (st3 (st3 m2 13 0 14 2) 13 0 15 (nI (dv B b' (z + 1 - b')))) 13 0 12 (nI (z + 1)) := by
                rw [st3_cm (f := 12) (g := 15) (by omega), st3_st, st3_st, show z + 1 - b' = z - b' + 1 by omega]
              rw [this]
            · rw [if_neg d, if_pos rfl, if_neg (by rintro ⟨-, q⟩; unfold pD at q; exact d (of_decide_eq_true q))]
          · rw [if_neg c, R_within, bind_s, show wi (-1) 48 57 = 0 by decide, if_pos rfl, if_neg (by rintro ⟨q, -⟩; exact c q)]
        have e1 : st3 (st3 (st3 m2 13 0 14 2) 13 0 15 (nI (dv B b' (b' - b')))) 13 0 12 (nI b') = st3 (st3 m2 13 0 14 2) 13 0 15 0 := by
          rw [Nat.sub_self]
          funext K' j' f'
          unfold st3
          split
          · rename_i q; obtain ⟨rfl, rfl, rfl⟩ := q; rw [if_neg (by omega), if_neg (by omega)]; exact m12.symm
          · rfl
        rw [e1] at lp
        rw [lp, bind_s]
        refine ⟨_, rfl, fun K' q => by rw [st3_K q, st3_K q, st3_K q, mK K' q], fun f q => by rw [st3_ua, ua_N (by omega), st3_ua, ua_N (by omega), st3_ua, ua_N (by omega), mf f (by omega)], by rw [st3_ua, ua_N (by omega), st3_ua, ua_N (by omega), st3_ua, ua_N (by omega)]; exact m13, by rw [st3_ua, ua_S, ee, pD_first c d2], by rw [st3_ua, ua_N (by omega), st3_ua, ua_N (by omega), st3_ua, ua_S, et], fun _ => ?_⟩
        rw [st3_ua, ua_N (by omega), st3_ua, ua_S, ee, pD_first c d2]
      · rw [if_neg d2] at et ee
        have q6 : (if nI (B b') = 59 then some 3 else if nI (B b') = 40 then some 3 else if nI (B b') = 41 then some 3 else some 4 : Option Int32) = some (tkT B L b') := by
          rw [et]
          by_cases g1 : B b' = 59
          · rw [if_pos (show nI (B b') = 59 from (nIl (k := 59) hb.2.1 (by omega)).mpr g1), if_pos (Or.inl g1)]
          · rw [if_neg (show ¬ nI (B b') = 59 from fun z => g1 ((nIl (k := 59) hb.2.1 (by omega)).mp z))]
            by_cases g2 : B b' = 40
            · rw [if_pos (show nI (B b') = 40 from (nIl (k := 40) hb.2.1 (by omega)).mpr g2), if_pos (Or.inr (Or.inl g2))]
            · rw [if_neg (show ¬ nI (B b') = 40 from fun z => g2 ((nIl (k := 40) hb.2.1 (by omega)).mp z))]
              by_cases g3 : B b' = 41
              · rw [if_pos (show nI (B b') = 41 from (nIl (k := 41) hb.2.1 (by omega)).mpr g3), if_pos (Or.inr (Or.inr g3))]
              · rw [if_neg (show ¬ nI (B b') = 41 from fun z => g3 ((nIl (k := 41) hb.2.1 (by omega)).mp z)), if_neg (by omega)]
        rw [if_neg d2, if_pos rfl, q6, bind_s, nm_9, nm_9, st3_ua, ua_N (by omega), m12, nI_1]
        refine ⟨_, rfl, fun K' q => by rw [st3_K q, st3_K q, mK K' q], fun f q => by rw [st3_ua, ua_N (by omega), st3_ua, ua_N (by omega), mf f (by omega)], by rw [st3_ua, ua_N (by omega), st3_ua, ua_N (by omega)]; exact m13, by rw [st3_ua, ua_S, ee], by rw [st3_ua, ua_N (by omega), st3_ua, ua_S], fun q => ?_⟩
        rw [et] at q
        split at q
        · exact absurd q (by decide)
        · exact absurd q (by decide)
  · have et : tkT B L b' = 0 := if_neg c
    have ee : tkE B L b' = b' := if_neg c
    rw [if_neg c, if_pos rfl, nm_9]
    refine ⟨_, rfl, fun K' q => by rw [st3_K q, mK K' q], fun f q => by rw [st3_ua, ua_N (by omega), mf f (by omega)], by rw [st3_ua, ua_N (by omega)]; exact m13, by rw [st3_ua, ua_N (by omega), ee]; exact m12, by rw [st3_ua, ua_S, et], fun q => ?_⟩
    rw [et] at q; exact absurd q (by decide)
theorem tk_all (h : ∀ i, i < L → 1 ≤ B i ∧ B i ≤ 255) {b : Nat} (hb : b ≤ L) {val : Int32} (hv : tkT B L b = 2 → val = nI (dv B b (tkE B L b - b))) : TKR (tkK B L b) (tkT B L b) val B b (tkE B L b) L := by
  unfold TKR
  unfold tkK tkT tkE at *
  by_cases c : b < L
  · rw [if_pos c, if_pos c, if_pos c]
    rw [if_pos c, if_pos c] at hv
    have hB := h b c
    by_cases d1 : isL (B b)
    · rw [if_pos d1, if_pos d1]
      rw [if_pos d1, if_pos d1] at hv
      have g1 := adv_ge (P := pL B) (L := L) (i := b + 1) rfl
      have g2 := adv_le (P := pL B) (L := L) (i := b + 1) rfl (by omega)
      have g3 := adv_all (P := pL B) (L := L) (i := b + 1) rfl
      refine ⟨by omega, g2, Or.inr (Or.inl ⟨(kO_1 hB.2).mpr d1, rfl, by omega, fun i h1 h2 => ?_⟩)⟩
      by_cases e : i = b
      · subst e; exact d1
      · have := g3 i (by omega) h2
        unfold pL at this
        exact of_decide_eq_true this
    · rw [if_neg d1, if_neg d1]
      rw [if_neg d1, if_neg d1] at hv
      by_cases d2 : isD (B b)
      · rw [if_pos d2, if_pos d2]
        rw [if_pos d2, if_pos d2] at hv
        have g1 := adv_ge (P := pD B) (L := L) (i := b + 1) rfl
        have g2 := adv_le (P := pD B) (L := L) (i := b + 1) rfl (by omega)
        have g3 := adv_all (P := pD B) (L := L) (i := b + 1) rfl
        refine ⟨by omega, g2, Or.inr (Or.inr (Or.inl ⟨(kO_2 hB.2).mpr d2, rfl, by omega, fun i h1 h2 => ?_, hv rfl⟩))⟩
        by_cases e : i = b
        · subst e; exact d2
        · have := g3 i (by omega) h2
          unfold pD at this
          exact of_decide_eq_true this
      · rw [if_neg d2, if_neg d2]
        refine ⟨by omega, by omega, Or.inr (Or.inr (Or.inr ?_))⟩
        unfold kO
        rw [if_neg d1, if_neg d2]
        by_cases d3 : B b = 59 ∨ B b = 40 ∨ B b = 41
        · rw [if_pos d3, if_pos d3]; exact Or.inl ⟨by omega, rfl, rfl, d3⟩
        · rw [if_neg d3, if_neg d3]; exact Or.inr ⟨by omega, rfl, rfl⟩
  · rw [if_neg c, if_neg c, if_neg c]
    exact ⟨by omega, by omega, Or.inl ⟨rfl, rfl, by omega⟩⟩
/-- both go on -/
theorem P_next (hK : K = 6 ∨ K = 8) (h : RS K μ ν B L b e) : ∃ m v b' e', f_Reader_next K μ = some m ∧ f_R_reads ν = some v ∧ RS K m v B L b' e' ∧ FRD K μ m ν v ∧ m K 0 4 = μ K 0 4 ∧ m K 0 5 = μ K 0 5 := by
  obtain ⟨hX, ⟨h1, h2⟩, ⟨h3, h4⟩, ⟨hbe, heL, hT⟩, h5, h6⟩ := h
  obtain ⟨v, r1, r2, r3, r4, r5, r6, r7⟩ := R_reads hX h4 heL
  have hb0 := adv_le (P := pB B) (L := L) (i := e) rfl heL
  have hC := C_next hK hX h3 heL
  generalize adv (pB B) L e = b' at *
  refine ⟨_, v, b', tkE B L b', hC, r1, ⟨⟨hX.1, ?_, ?_, ?_⟩, ⟨?_, r4⟩, ⟨?_, r5⟩, ?_, ?_, ?_⟩, ⟨fun K' q => ?_, fun j f q => ?_, r2, fun f q => r3 f (by omega)⟩, ?_, ?_⟩
  · rw [st3_K (by omega), st3_K (by omega), st3_K (by omega)]; exact hX.2.1
  · rw [r3 9 (by omega)]; exact hX.2.2.1
  · rw [st3_K (by omega), st3_K (by omega), st3_K (by omega), r2 46 (by omega)]; exact hX.2.2.2
  · rw [st3_ua, ua_N (by omega), st3_ua, ua_N (by omega), st3_ua, ua_S]
  · rw [st3_ua, ua_S]
  · rw [st3_ua, ua_N (by omega), st3_ua, ua_S, r6]
    exact tk_all (fun i hi => ⟨(hX.2.2.2 i hi).1, (hX.2.2.2 i hi).2.1⟩) hb0 (fun q => r7 q)
  · rw [st3_ua, ua_N (by omega), st3_ua, ua_N (by omega), st3_ua, ua_N (by omega), r3 16 (by omega)]; exact h5
  · rw [st3_ua, ua_N (by omega), st3_ua, ua_N (by omega), st3_ua, ua_N (by omega), r3 17 (by omega)]; exact h6
  · rw [st3_K q, st3_K q, st3_K q]
  · by_cases e0 : j = 0
    · subst e0; rw [st3_ua, ua_N (by omega), st3_ua, ua_N (by omega), st3_ua, ua_N (by omega)]
    · rw [st3_J e0, st3_J e0, st3_J e0]
  · rw [st3_ua, ua_N (by omega), st3_ua, ua_N (by omega), st3_ua, ua_N (by omega)]
  · rw [st3_ua, ua_N (by omega), st3_ua, ua_N (by omega), st3_ua, ua_N (by omega)]
end Token2
